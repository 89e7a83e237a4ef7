/-! THE CLASS READS: each section of rows -/
theorem rows_map {α β : Type} (f : α → β) (row : Nat → sp_O α) : ∀ j p, sp_rows (fun p => sp_map f (row p)) j p = sp_map (List.map f) (sp_rows row j p)
  | 0, p => rfl
  | j + 1, p => by
    rw [sp_rows, sp_rows, map_b]
    cases row p with
    | inl w => rfl
    | inr v =>
      show sp_b (sp_rows (fun p => sp_map f (row p)) j v.2) (fun l p2 => .inr (f v.1 :: l, p2)) = sp_map (List.map f) (sp_b (sp_rows row j v.2) (fun l p2 => .inr (v.1 :: l, p2)))
      rw [rows_map f row j v.2, map_b]
      cases sp_rows row j v.2 with
      | inl w => rfl
      | inr u => rfl
theorem cMx_up {h : pm_H} {mm lo x id : Nat} {M : tMd} (i9 : id ≠ 99) (hx : x ≤ pm_sz h) (C : cMx h mm lo x id M) : cMx h mm lo (pm_sz h) id M := cMx_k (h := h) (hi := x) (skip := id) (fun _ _ _ => ⟨rfl, rfl, rfl, rfl, rfl⟩) hx (.inr rfl) (fun _ _ _ _ _ => rfl) i9 rfl rfl C
theorem sp_imp_4 {B : Nat → Nat} {e p p' : Nat} {v : tImp} (q : sp_imp B e p = .inr (v, p')) : v.1 < 4 := by
  unfold sp_imp at q
  obtain ⟨a, p1, e1, e2⟩ := b_inv q
  obtain ⟨a2, p2, e3, e4⟩ := b_inv e2
  obtain ⟨c, p3, e5, e6⟩ := b_inv e4
  have c3 : c ≤ 3 := by
    unfold sp_byte at e5
    split at e5
    · split at e5
      · next z => cases e5; exact of_decide_eq_true z
      · cases e5
    · cases e5
  have u : sA (fun v : tImp => v.1 = c) (sp_desc B e c p3) := by
    unfold sp_desc
    exact sA_i (fun _ => sA_b fun _ _ => sA_r rfl) (fun _ => sA_i (fun _ => sA_b fun _ _ => sA_b fun _ _ => sA_r rfl) (fun _ => sA_i (fun _ => sA_b fun _ _ => sA_b fun _ _ => sA_r rfl) (fun _ => sA_b fun _ _ => sA_r rfl)))
  have : v.1 = c := u v p' e6
  omega
section SECS
variable {A : Nat → Prop} {h0 h h2 : pm_H} {n b mm me sh lo last p p2 sz i : Nat} {d : Bool} {B : Nat → Nat} {M : tMd} {q : Int32}
theorem li_x {o : Option Nat} {p c : Nat} (ho : ∀ x, o = some x → x < 2147483648) (a : Bool) : xv (xv (on3 o) (Int32.ofNat p) (decide (64 < c))) (Int32.ofNat p) a = on3 (liM o p (decide (64 < c) || a)) := by
  rw [xv_or]
  exact xv_li ho _

theorem adv_7 {H : pm_H} (K9 : pm_kd H 19 = 9) (i10 : pm_I H 19 10 = Int32.ofNat 7) : fX9_advance H 19 = (fX9_exportOne H 19).bind fun v => fX9_advance_b128 v 19 := by
  unfold fX9_advance fX9_advance_b0
  refine e9_t K9 ?_
  rw [i10]
  exact e9_t (by decide) (e9_l (e9_f (by decide) (e9_f (by decide) (e9_f (by decide) (e9_f (by decide) (e9_f (by decide) (e9_f (by decide) (e9_t (by decide) rfl))))))))
/-- section 7 as the class has read it -/
def mk7 (M : tMd) (p : Nat) (l : List tXp) : tMd := (M.1, M.2.1, M.2.2.1, M.2.2.2.1, M.2.2.2.2.1, M.2.2.2.2.2.1, l, M.2.2.2.2.2.2.2.1, M.2.2.2.2.2.2.2.2.1, M.2.2.2.2.2.2.2.2.2.1, M.2.2.2.2.2.2.2.2.2.2.1, M.2.2.2.2.2.2.2.2.2.2.2.1, (sec1 M 7 p).2.2.2.2.2.2.2.2.2.2.2.2.1, liM M.2.2.2.2.2.2.2.2.2.2.2.2.2 p (decide (64 < l.length) || l.any (fun _ => false)))
theorem sec_7 (E : eng A h0) (hp2 : p2 + sz ≤ n) (hp : p < 2147483648) (LC : lC h2 n b mm me n d false B) (T : dT h2 b mm me sh) (i12 : pm_I h2 19 12 = Int32.ofNat last) (i5 : pm_I h2 19 5 = on3 M.2.2.2.2.2.2.2.2.2.2.2.2.2) (CM : cMx h2 mm lo (pm_sz h2) 0 M) (hlo : 19 < lo ∧ me < lo ∧ sh < lo ∧ b < lo ∧ mm < lo) (shb : sh ≠ b) (hli : ∀ x, M.2.2.2.2.2.2.2.2.2.2.2.2.2 = some x → x < 2147483648) (hi : i + 8 ≤ p) (hpp : p < p2) (F : pr_F A h0 (rc h (Int32.ofNat p) 0 q)) (K9 : pm_kd h 19 = 9) (go : pm_I h 19 10 = -1 ∧ pm_I h 19 2 = Int32.ofNat n) (hpn : p < n) (AD : fX9_advance (rc h (Int32.ofNat p) 0 q) 19 = (fX9_openSection_b93 (rc h2 (Int32.ofNat p2) 0 q) 19 (Int32.ofNat p) (Int32.ofNat 7) (Int64.ofNat sz)).bind fun v => fX9_advance_b138 v 19) : wSec A h0 n b mm me sh lo last p B q d (mk7 M p) (s69 n mm i (rc h (Int32.ofNat p) 0 q)) (sp_b (sp_num B (p2 + sz) p2) fun c p3 => sp_b (sp_rows (sp_xp B (p2 + sz)) c p3) fun l p' => if p' < p2 + sz then .inl (3, p') else .inr (l, p')) := by
  have n4 := LC.1.2.2.2.2.2.2.1
  refine sec_rows (σ := List tXp) (id := 7) (pl := p) (M1 := sec1 M 7 p) (L0 := fun c => xv (on3 M.2.2.2.2.2.2.2.2.2.2.2.2.2) (Int32.ofNat p) (decide (64 < c))) (P := pXpC) (k := 34) (w := 4) (j := 8) (N := 0) (pre := []) (bg := (fun _ => false)) (row := sp_xp B (p2 + sz)) (X := fun H => fX9_exportOne H 19) (mk := mk7 M p) (dd := d) E st_xp (by decide) (Nat.zero_le _) hlo shb hp2 n4 (by omega) hi hpp F K9 go hpn LC.1.2.2.2.2.2.2.2.2.2 AD (op_7 hp2 hp LC T i12 i5 CM hlo) (fun H K i10 => adv_7 K i10) (fun h x kept l p S C hk hp => rs_xp S rfl C hk hp q rfl) ?_ (fun p v p' z hz => sp_xp_b hz z)
  intro hx x l p' c hc _ O hpe hl hm
  obtain ⟨S, C, CX, ⟨x1, x2⟩, i10', i11', i12', l14, pr, l5⟩ := O
  have T' := S.2.1
  have L5 : pm_I hx 19 5 = on3 (mk7 M p l).2.2.2.2.2.2.2.2.2.2.2.2.2 := by rw [l5]; exact li_x hli _
  have CU := cMx_up (by decide) (Nat.le_of_lt x2) CX
  obtain ⟨c1, c2, c3, c4, c5, c6, c7, c8, c9, c10, c11, c12, d1, d3, d4, d5, d6⟩ := CU
  refine cs_close (id := 7) (by decide) (by decide) S.1 T' i10' i12' L5 ⟨fun _ => c1 (by decide), fun _ => c2 (by decide), fun _ => c3 (by decide), fun _ => c4 (by decide), fun _ => c5 (by decide), fun _ => c6 (by decide), fun _ => ?_, fun _ => c8 (by decide), fun _ => c9 (by decide), fun _ => c10 (by decide), c11, c12, d1, d3, d4, d5, d6⟩ ⟨hlo.1, hlo.2.2.2.2⟩ hpe
  refine ⟨x, S.2.2.1, x1, x2, S.2.2.2.1, ?_, by show l.length ≤ _; omega, fun i v e => ?_⟩
  · rw [S.2.2.2.2.1, Nat.zero_add]; rfl
  · have := C.1 i v e
    rw [Nat.zero_add] at this
    exact this
theorem adv_9 {H : pm_H} (K9 : pm_kd H 19 = 9) (i10 : pm_I H 19 10 = Int32.ofNat 9) : fX9_advance H 19 = (fX9_element H 19).bind fun v => fX9_advance_b128 v 19 := by
  unfold fX9_advance fX9_advance_b0
  refine e9_t K9 ?_
  rw [i10]
  exact e9_t (by decide) (e9_l (e9_f (by decide) (e9_f (by decide) (e9_f (by decide) (e9_f (by decide) (e9_f (by decide) (e9_f (by decide) (e9_f (by decide) (e9_f (by decide) (e9_t (by decide) rfl))))))))))
/-- section 9 as the class has read it -/
def mk9 (M : tMd) (p : Nat) (l : List tEl) : tMd := (M.1, M.2.1, M.2.2.1, M.2.2.2.1, M.2.2.2.2.1, M.2.2.2.2.2.1, M.2.2.2.2.2.2.1, l, M.2.2.2.2.2.2.2.2.1, M.2.2.2.2.2.2.2.2.2.1, M.2.2.2.2.2.2.2.2.2.2.1, M.2.2.2.2.2.2.2.2.2.2.2.1, (sec1 M 9 p).2.2.2.2.2.2.2.2.2.2.2.2.1, liM M.2.2.2.2.2.2.2.2.2.2.2.2.2 p (decide (64 < l.length) || l.any (fun _ => false)))
theorem sec_9 (E : eng A h0) (hp2 : p2 + sz ≤ n) (hp : p < 2147483648) (LC : lC h2 n b mm me n d false B) (T : dT h2 b mm me sh) (i12 : pm_I h2 19 12 = Int32.ofNat last) (i5 : pm_I h2 19 5 = on3 M.2.2.2.2.2.2.2.2.2.2.2.2.2) (CM : cMx h2 mm lo (pm_sz h2) 0 M) (hlo : 19 < lo ∧ me < lo ∧ sh < lo ∧ b < lo ∧ mm < lo) (shb : sh ≠ b) (hli : ∀ x, M.2.2.2.2.2.2.2.2.2.2.2.2.2 = some x → x < 2147483648) (hi : i + 8 ≤ p) (hpp : p < p2) (F : pr_F A h0 (rc h (Int32.ofNat p) 0 q)) (K9 : pm_kd h 19 = 9) (go : pm_I h 19 10 = -1 ∧ pm_I h 19 2 = Int32.ofNat n) (hpn : p < n) (AD : fX9_advance (rc h (Int32.ofNat p) 0 q) 19 = (fX9_openSection_b93 (rc h2 (Int32.ofNat p2) 0 q) 19 (Int32.ofNat p) (Int32.ofNat 9) (Int64.ofNat sz)).bind fun v => fX9_advance_b138 v 19) : wSec A h0 n b mm me sh lo last p B q d (mk9 M p) (s69 n mm i (rc h (Int32.ofNat p) 0 q)) (sp_b (sp_num B (p2 + sz) p2) fun c p3 => sp_b (sp_rows (sp_el B (p2 + sz) d) c p3) fun l p' => if p' < p2 + sz then .inl (3, p') else .inr (l, p')) := by
  have n4 := LC.1.2.2.2.2.2.2.1
  refine sec_rows (σ := List tEl) (id := 9) (pl := p) (M1 := sec1 M 9 p) (L0 := fun c => xv (on3 M.2.2.2.2.2.2.2.2.2.2.2.2.2) (Int32.ofNat p) (decide (64 < c))) (P := pElC) (k := 34) (w := 7) (j := 9) (N := 0) (pre := []) (bg := (fun _ => false)) (row := sp_el B (p2 + sz) d) (X := fun H => fX9_element H 19) (mk := mk9 M p) (dd := d) E st_el (by decide) (Nat.zero_le _) hlo shb hp2 n4 (by omega) hi hpp F K9 go hpn LC.1.2.2.2.2.2.2.2.2.2 AD (op_9 hp2 hp LC T i12 i5 CM hlo) (fun H K i10 => adv_9 K i10) (fun h x kept l p S C hk hp => rs_el S rfl C hk hp q rfl) ?_ (fun p v p' z hz => sp_el_b hz z)
  intro hx x l p' c hc _ O hpe hl hm
  obtain ⟨S, C, CX, ⟨x1, x2⟩, i10', i11', i12', l14, pr, l5⟩ := O
  have T' := S.2.1
  have L5 : pm_I hx 19 5 = on3 (mk9 M p l).2.2.2.2.2.2.2.2.2.2.2.2.2 := by rw [l5]; exact li_x hli _
  have CU := cMx_up (by decide) (Nat.le_of_lt x2) CX
  obtain ⟨c1, c2, c3, c4, c5, c6, c7, c8, c9, c10, c11, c12, d1, d3, d4, d5, d6⟩ := CU
  refine cs_close (id := 9) (by decide) (by decide) S.1 T' i10' i12' L5 ⟨fun _ => c1 (by decide), fun _ => c2 (by decide), fun _ => c3 (by decide), fun _ => c4 (by decide), fun _ => c5 (by decide), fun _ => c6 (by decide), fun _ => c7 (by decide), fun _ => ?_, fun _ => c9 (by decide), fun _ => c10 (by decide), c11, c12, d1, d3, d4, d5, d6⟩ ⟨hlo.1, hlo.2.2.2.2⟩ hpe
  refine ⟨x, S.2.2.1, x1, x2, S.2.2.2.1, ?_, by show l.length ≤ _; omega, fun i v e => ?_⟩
  · rw [S.2.2.2.2.1, Nat.zero_add]; rfl
  · have := C.1 i v e
    rw [Nat.zero_add] at this
    exact this
theorem adv_11 {H : pm_H} (K9 : pm_kd H 19 = 9) (i10 : pm_I H 19 10 = Int32.ofNat 11) : fX9_advance H 19 = (fX9_dataOne H 19).bind fun v => fX9_advance_b128 v 19 := by
  unfold fX9_advance fX9_advance_b0
  refine e9_t K9 ?_
  rw [i10]
  exact e9_t (by decide) (e9_l (e9_f (by decide) (e9_f (by decide) (e9_f (by decide) (e9_f (by decide) (e9_f (by decide) (e9_f (by decide) (e9_f (by decide) (e9_f (by decide) (e9_f (by decide) (e9_f (by decide) (e9_t (by decide) rfl))))))))))))
/-- section 11 as the class has read it -/
def mk11 (M : tMd) (p : Nat) (l : List tDa) : tMd := (M.1, M.2.1, M.2.2.1, M.2.2.2.1, M.2.2.2.2.1, M.2.2.2.2.2.1, M.2.2.2.2.2.2.1, M.2.2.2.2.2.2.2.1, l, M.2.2.2.2.2.2.2.2.2.1, M.2.2.2.2.2.2.2.2.2.2.1, M.2.2.2.2.2.2.2.2.2.2.2.1, (sec1 M 11 p).2.2.2.2.2.2.2.2.2.2.2.2.1, liM M.2.2.2.2.2.2.2.2.2.2.2.2.2 p (decide (64 < l.length) || l.any (fun _ => false)))
theorem sec_11 (E : eng A h0) (hp2 : p2 + sz ≤ n) (hp : p < 2147483648) (LC : lC h2 n b mm me n d false B) (T : dT h2 b mm me sh) (i12 : pm_I h2 19 12 = Int32.ofNat last) (i5 : pm_I h2 19 5 = on3 M.2.2.2.2.2.2.2.2.2.2.2.2.2) (CM : cMx h2 mm lo (pm_sz h2) 0 M) (hlo : 19 < lo ∧ me < lo ∧ sh < lo ∧ b < lo ∧ mm < lo) (shb : sh ≠ b) (hli : ∀ x, M.2.2.2.2.2.2.2.2.2.2.2.2.2 = some x → x < 2147483648) (hi : i + 8 ≤ p) (hpp : p < p2) (F : pr_F A h0 (rc h (Int32.ofNat p) 0 q)) (K9 : pm_kd h 19 = 9) (go : pm_I h 19 10 = -1 ∧ pm_I h 19 2 = Int32.ofNat n) (hpn : p < n) (AD : fX9_advance (rc h (Int32.ofNat p) 0 q) 19 = (fX9_openSection_b93 (rc h2 (Int32.ofNat p2) 0 q) 19 (Int32.ofNat p) (Int32.ofNat 11) (Int64.ofNat sz)).bind fun v => fX9_advance_b138 v 19) : wSec A h0 n b mm me sh lo last p B q d (mk11 M p) (s69 n mm i (rc h (Int32.ofNat p) 0 q)) (sp_b (sp_num B (p2 + sz) p2) fun c p3 => sp_b (sp_rows (sp_da B (p2 + sz) d) c p3) fun l p' => if p' < p2 + sz then .inl (3, p') else .inr (l, p')) := by
  have n4 := LC.1.2.2.2.2.2.2.1
  refine sec_rows (σ := List tDa) (id := 11) (pl := p) (M1 := sec1 M 11 p) (L0 := fun c => xv (on3 M.2.2.2.2.2.2.2.2.2.2.2.2.2) (Int32.ofNat p) (decide (64 < c))) (P := pDaC) (k := 34) (w := 7) (j := 10) (N := 0) (pre := []) (bg := (fun _ => false)) (row := sp_da B (p2 + sz) d) (X := fun H => fX9_dataOne H 19) (mk := mk11 M p) (dd := d) E st_da (by decide) (Nat.zero_le _) hlo shb hp2 n4 (by omega) hi hpp F K9 go hpn LC.1.2.2.2.2.2.2.2.2.2 AD (op_11 hp2 hp LC T i12 i5 CM hlo) (fun H K i10 => adv_11 K i10) (fun h x kept l p S C hk hp => rs_da S rfl C hk hp q rfl) ?_ (fun p v p' z hz => sp_da_b hz z)
  intro hx x l p' c hc _ O hpe hl hm
  obtain ⟨S, C, CX, ⟨x1, x2⟩, i10', i11', i12', l14, pr, l5⟩ := O
  have T' := S.2.1
  have L5 : pm_I hx 19 5 = on3 (mk11 M p l).2.2.2.2.2.2.2.2.2.2.2.2.2 := by rw [l5]; exact li_x hli _
  have CU := cMx_up (by decide) (Nat.le_of_lt x2) CX
  obtain ⟨c1, c2, c3, c4, c5, c6, c7, c8, c9, c10, c11, c12, d1, d3, d4, d5, d6⟩ := CU
  refine cs_close (id := 11) (by decide) (by decide) S.1 T' i10' i12' L5 ⟨fun _ => c1 (by decide), fun _ => c2 (by decide), fun _ => c3 (by decide), fun _ => c4 (by decide), fun _ => c5 (by decide), fun _ => c6 (by decide), fun _ => c7 (by decide), fun _ => c8 (by decide), fun _ => ?_, fun _ => c10 (by decide), c11, c12, d1, d3, d4, d5, d6⟩ ⟨hlo.1, hlo.2.2.2.2⟩ hpe
  refine ⟨x, S.2.2.1, x1, x2, S.2.2.2.1, ?_, by show l.length ≤ _; omega, fun i v e => ?_⟩
  · rw [S.2.2.2.2.1, Nat.zero_add]; rfl
  · have := C.1 i v e
    rw [Nat.zero_add] at this
    exact this
theorem adv_10 {H : pm_H} (K9 : pm_kd H 19 = 9) (i10 : pm_I H 19 10 = Int32.ofNat 10) : fX9_advance H 19 = (fX9_body H 19).bind fun v => fX9_advance_b128 v 19 := by
  unfold fX9_advance fX9_advance_b0
  refine e9_t K9 ?_
  rw [i10]
  exact e9_t (by decide) (e9_l (e9_f (by decide) (e9_f (by decide) (e9_f (by decide) (e9_f (by decide) (e9_f (by decide) (e9_f (by decide) (e9_f (by decide) (e9_f (by decide) (e9_f (by decide) (e9_t (by decide) rfl)))))))))))
/-- section 10 as the class has read it -/
def mk10 (M : tMd) (p : Nat) (l : List tBo) : tMd := (M.1, M.2.1, M.2.2.1, M.2.2.2.1, M.2.2.2.2.1, M.2.2.2.2.2.1, M.2.2.2.2.2.2.1, M.2.2.2.2.2.2.2.1, M.2.2.2.2.2.2.2.2.1, l, M.2.2.2.2.2.2.2.2.2.2.1, M.2.2.2.2.2.2.2.2.2.2.2.1, (sec1 M 10 p).2.2.2.2.2.2.2.2.2.2.2.2.1, liM M.2.2.2.2.2.2.2.2.2.2.2.2.2 p (decide (64 < l.length) || l.any bigB))
theorem sec_10 (E : eng A h0) (hp2 : p2 + sz ≤ n) (hp : p < 2147483648) (LC : lC h2 n b mm me n d false B) (T : dT h2 b mm me sh) (i12 : pm_I h2 19 12 = Int32.ofNat last) (i5 : pm_I h2 19 5 = on3 M.2.2.2.2.2.2.2.2.2.2.2.2.2) (CM : cMx h2 mm lo (pm_sz h2) 0 M) (hlo : 19 < lo ∧ me < lo ∧ sh < lo ∧ b < lo ∧ mm < lo) (shb : sh ≠ b) (hli : ∀ x, M.2.2.2.2.2.2.2.2.2.2.2.2.2 = some x → x < 2147483648) (hi : i + 8 ≤ p) (hpp : p < p2) (F : pr_F A h0 (rc h (Int32.ofNat p) 0 q)) (K9 : pm_kd h 19 = 9) (go : pm_I h 19 10 = -1 ∧ pm_I h 19 2 = Int32.ofNat n) (hpn : p < n) (AD : fX9_advance (rc h (Int32.ofNat p) 0 q) 19 = (fX9_openSection_b93 (rc h2 (Int32.ofNat p2) 0 q) 19 (Int32.ofNat p) (Int32.ofNat 10) (Int64.ofNat sz)).bind fun v => fX9_advance_b138 v 19) : wSec A h0 n b mm me sh lo last p B q d (mk10 M p) (s69 n mm i (rc h (Int32.ofNat p) 0 q)) (sp_b (sp_num B (p2 + sz) p2) fun c p3 => sp_b (sp_rows (sp_bo B (p2 + sz) d) c p3) fun l p' => if p' < p2 + sz then .inl (3, p') else .inr (l, p')) := by
  have n4 := LC.1.2.2.2.2.2.2.1
  refine sec_rows (σ := List tBo) (id := 10) (pl := p) (M1 := sec1 M 10 p) (L0 := fun c => xv (on3 M.2.2.2.2.2.2.2.2.2.2.2.2.2) (Int32.ofNat p) (decide (64 < c))) (P := pBoC) (k := 34) (w := 2) (j := 11) (N := 0) (pre := []) (bg := bigB) (row := sp_bo B (p2 + sz) d) (X := fun H => fX9_body H 19) (mk := mk10 M p) (dd := d) E st_bo (by decide) (Nat.zero_le _) hlo shb hp2 n4 (by omega) hi hpp F K9 go hpn LC.1.2.2.2.2.2.2.2.2.2 AD (op_10 hp2 hp LC T i12 i5 CM hlo) (fun H K i10 => adv_10 K i10) (fun h x kept l p S C hk hp => rs_bo S rfl C hk hp q rfl) ?_ (fun p v p' z hz => sp_bo_b hz z)
  intro hx x l p' c hc _ O hpe hl hm
  obtain ⟨S, C, CX, ⟨x1, x2⟩, i10', i11', i12', l14, pr, l5⟩ := O
  have T' := S.2.1
  have L5 : pm_I hx 19 5 = on3 (mk10 M p l).2.2.2.2.2.2.2.2.2.2.2.2.2 := by rw [l5]; exact li_x hli _
  have CU := cMx_up (by decide) (Nat.le_of_lt x2) CX
  obtain ⟨c1, c2, c3, c4, c5, c6, c7, c8, c9, c10, c11, c12, d1, d3, d4, d5, d6⟩ := CU
  refine cs_close (id := 10) (by decide) (by decide) S.1 T' i10' i12' L5 ⟨fun _ => c1 (by decide), fun _ => c2 (by decide), fun _ => c3 (by decide), fun _ => c4 (by decide), fun _ => c5 (by decide), fun _ => c6 (by decide), fun _ => c7 (by decide), fun _ => c8 (by decide), fun _ => c9 (by decide), fun _ => ?_, c11, c12, d1, d3, d4, d5, d6⟩ ⟨hlo.1, hlo.2.2.2.2⟩ hpe
  refine ⟨x, S.2.2.1, x1, x2, S.2.2.2.1, ?_, by show l.length ≤ _; omega, fun i v e => ?_⟩
  · rw [S.2.2.2.2.1, Nat.zero_add]; rfl
  · have := C.1 i v e
    rw [Nat.zero_add] at this
    exact this
theorem adv_2 {H : pm_H} (K9 : pm_kd H 19 = 9) (i10 : pm_I H 19 10 = Int32.ofNat 2) : fX9_advance H 19 = (fX9_importOne H 19).bind fun v => fX9_advance_b128 v 19 := by
  unfold fX9_advance fX9_advance_b0
  refine e9_t K9 ?_
  rw [i10]
  exact e9_t (by decide) (e9_l (e9_f (by decide) (e9_t (by decide) rfl)))
/-- section 2 as the class has read it -/
def mk2 (M : tMd) (p : Nat) (l : List tImp) : tMd := (M.1, l, M.2.2.1, M.2.2.2.1, M.2.2.2.2.1, M.2.2.2.2.2.1, M.2.2.2.2.2.2.1, M.2.2.2.2.2.2.2.1, M.2.2.2.2.2.2.2.2.1, M.2.2.2.2.2.2.2.2.2.1, M.2.2.2.2.2.2.2.2.2.2.1, M.2.2.2.2.2.2.2.2.2.2.2.1, (sec1 M 2 p).2.2.2.2.2.2.2.2.2.2.2.2.1, liM M.2.2.2.2.2.2.2.2.2.2.2.2.2 p (decide (64 < l.length) || l.any (fun _ => false)))
theorem sec_2 (E : eng A h0) (hp2 : p2 + sz ≤ n) (hp : p < 2147483648) (LC : lC h2 n b mm me n d false B) (T : dT h2 b mm me sh) (i12 : pm_I h2 19 12 = Int32.ofNat last) (i5 : pm_I h2 19 5 = on3 M.2.2.2.2.2.2.2.2.2.2.2.2.2) (CM : cMx h2 mm lo (pm_sz h2) 0 M) (hlo : 19 < lo ∧ me < lo ∧ sh < lo ∧ b < lo ∧ mm < lo) (shb : sh ≠ b) (hli : ∀ x, M.2.2.2.2.2.2.2.2.2.2.2.2.2 = some x → x < 2147483648) (hM : M.2.2.1 = [] ∧ M.2.2.2.1 = [] ∧ M.2.2.2.2.1 = [] ∧ M.2.2.2.2.2.1 = []) (hi : i + 8 ≤ p) (hpp : p < p2) (F : pr_F A h0 (rc h (Int32.ofNat p) 0 q)) (K9 : pm_kd h 19 = 9) (go : pm_I h 19 10 = -1 ∧ pm_I h 19 2 = Int32.ofNat n) (hpn : p < n) (AD : fX9_advance (rc h (Int32.ofNat p) 0 q) 19 = (fX9_openSection_b93 (rc h2 (Int32.ofNat p2) 0 q) 19 (Int32.ofNat p) (Int32.ofNat 2) (Int64.ofNat sz)).bind fun v => fX9_advance_b138 v 19) : wSec A h0 n b mm me sh lo last p B q d (mk2 M p) (s69 n mm i (rc h (Int32.ofNat p) 0 q)) (sp_b (sp_num B (p2 + sz) p2) fun c p3 => sp_b (sp_rows (sp_imp B (p2 + sz)) c p3) fun l p' => if p' < p2 + sz then .inl (3, p') else .inr (l, p')) := by
  have n4 := LC.1.2.2.2.2.2.2.1
  refine sec_rows (σ := List tImp) (id := 2) (pl := p) (M1 := sec1 M 2 p) (L0 := fun c => xv (on3 M.2.2.2.2.2.2.2.2.2.2.2.2.2) (Int32.ofNat p) (decide (64 < c))) (P := pEnt) (k := 35) (w := 6) (j := 3) (N := 0) (pre := []) (bg := (fun _ => false)) (row := sp_imp B (p2 + sz)) (X := fun H => fX9_importOne H 19) (mk := mk2 M p) (dd := d) E st_ent (by decide) (Nat.zero_le _) hlo shb hp2 n4 (by omega) hi hpp F K9 go hpn LC.1.2.2.2.2.2.2.2.2.2 AD (op_2 hp2 hp LC T i12 i5 CM hlo) (fun H K i10 => adv_2 K i10) (fun h x kept l p S C hk hp => rs_imp S rfl C hk hp q rfl) ?_ (fun p v p' z hz => sp_imp_b hz z)
  intro hx x l p' c hc _ O hpe hl hm
  obtain ⟨S, C, CX, ⟨x1, x2⟩, i10', i11', i12', l14, pr, l5⟩ := O
  have T' := S.2.1
  have L5 : pm_I hx 19 5 = on3 (mk2 M p l).2.2.2.2.2.2.2.2.2.2.2.2.2 := by rw [l5]; exact li_x hli _
  have CU := cMx_up (by decide) (Nat.le_of_lt x2) CX
  refine cs_close2 (M := mk2 M p l) (M0 := sec1 M 2 p) (x := x) S.1 T' i10' i12' L5 hM rfl CX ⟨x1, x2⟩ S.2.2.1 S.2.2.2.1 ?_ hl (fun i v e => ⟨?_, ?_⟩) ⟨hlo.1, hlo.2.2.2.2⟩ hpe
  · rw [S.2.2.2.2.1, Nat.zero_add]; rfl
  · obtain ⟨y, z, e1⟩ := hm v (List.mem_of_getElem? e)
    exact sp_imp_4 e1
  · have := C.1 i v e
    rw [Nat.zero_add] at this
    exact this
theorem adv_3 {H : pm_H} (K9 : pm_kd H 19 = 9) (i10 : pm_I H 19 10 = Int32.ofNat 3) : fX9_advance H 19 = (fX9_own H 19 (Int32.ofNat 0)).bind fun v => fX9_advance_b128 v 19 := by
  unfold fX9_advance fX9_advance_b0
  refine e9_t K9 ?_
  rw [i10]
  refine e9_t (by decide) (e9_l (e9_f (by decide) (e9_f (by decide) (e9_t (by decide) ?_))))
  unfold fX9_advance_b118
  refine e9_t K9 ?_
  rw [i10, show Int32.ofNat 3 - 3 = Int32.ofNat 0 from by decide]
/-- section 3 as the class has read it -/
def mk3 (M : tMd) (p : Nat) (l : List tImp) : tMd := (M.1, M.2.1, (l.map (fun v => v.2.1)), M.2.2.2.1, M.2.2.2.2.1, M.2.2.2.2.2.1, M.2.2.2.2.2.2.1, M.2.2.2.2.2.2.2.1, M.2.2.2.2.2.2.2.2.1, M.2.2.2.2.2.2.2.2.2.1, M.2.2.2.2.2.2.2.2.2.2.1, M.2.2.2.2.2.2.2.2.2.2.2.1, (sec1 M 3 p).2.2.2.2.2.2.2.2.2.2.2.2.1, liM M.2.2.2.2.2.2.2.2.2.2.2.2.2 p (decide (64 < l.length) || l.any (fun _ => false)))
theorem sec_3 (E : eng A h0) (hNil : M.2.2.1 = []) (hp2 : p2 + sz ≤ n) (hp : p < 2147483648) (LC : lC h2 n b mm me n d false B) (T : dT h2 b mm me sh) (i12 : pm_I h2 19 12 = Int32.ofNat last) (i5 : pm_I h2 19 5 = on3 M.2.2.2.2.2.2.2.2.2.2.2.2.2) (CM : cMx h2 mm lo (pm_sz h2) 0 M) (hlo : 19 < lo ∧ me < lo ∧ sh < lo ∧ b < lo ∧ mm < lo) (shb : sh ≠ b) (hli : ∀ x, M.2.2.2.2.2.2.2.2.2.2.2.2.2 = some x → x < 2147483648) (hN : (spF M).length ≤ 40960) (hi : i + 8 ≤ p) (hpp : p < p2) (F : pr_F A h0 (rc h (Int32.ofNat p) 0 q)) (K9 : pm_kd h 19 = 9) (go : pm_I h 19 10 = -1 ∧ pm_I h 19 2 = Int32.ofNat n) (hpn : p < n) (AD : fX9_advance (rc h (Int32.ofNat p) 0 q) 19 = (fX9_openSection_b93 (rc h2 (Int32.ofNat p2) 0 q) 19 (Int32.ofNat p) (Int32.ofNat 3) (Int64.ofNat sz)).bind fun v => fX9_advance_b138 v 19) : wSec A h0 n b mm me sh lo last p B q d (mk3 M p) (s69 n mm i (rc h (Int32.ofNat p) 0 q)) (sp_b (sp_num B (p2 + sz) p2) fun c p3 => sp_b (sp_rows ((fun p => sp_map (fun v : tFn => ((0, v, 0, -1, 0) : tImp)) (sp_fn B (p2 + sz) p))) c p3) fun l p' => if p' < p2 + sz then .inl (3, p') else .inr (l, p')) := by
  have n4 := LC.1.2.2.2.2.2.2.1
  refine sec_rows (σ := List tImp) (id := 3) (pl := p) (M1 := sec1 M 3 p) (L0 := fun c => xv (on3 M.2.2.2.2.2.2.2.2.2.2.2.2.2) (Int32.ofNat p) (decide (64 < c))) (P := pEnt) (k := 35) (w := 6) (j := 4) (N := (spF M).length) (pre := (spF M)) (bg := (fun _ => false)) (row := (fun p => sp_map (fun v : tFn => ((0, v, 0, -1, 0) : tImp)) (sp_fn B (p2 + sz) p))) (X := fun H => fX9_own H 19 (Int32.ofNat 0)) (mk := mk3 M p) (dd := d) E st_ent (by decide) (Nat.le_refl _) hlo shb hp2 n4 (by omega) hi hpp F K9 go hpn LC.1.2.2.2.2.2.2.2.2.2 AD (op_3 hp2 hp LC T i12 i5 CM hlo hN) (fun H K i10 => adv_3 K i10) (fun h x kept l p S C hk hp => rs_fn S rfl C hk hp q) ?_ (fun p v p' z hz => sp_ms_b (fun v p' z => sp_fn_b hz z) z)
  intro hx x l p' c hc _ O hpe hl hm
  obtain ⟨S, C, CX, ⟨x1, x2⟩, i10', i11', i12', l14, pr, l5⟩ := O
  have T' := S.2.1
  have L5 : pm_I hx 19 5 = on3 (mk3 M p l).2.2.2.2.2.2.2.2.2.2.2.2.2 := by rw [l5]; exact li_x hli _
  have CU := cMx_up (by decide) (Nat.le_of_lt x2) CX
  obtain ⟨c1, c2, c3, c4, c5, c6, c7, c8, c9, c10, c11, c12, d1, d3, d4, d5, d6⟩ := CU
  refine cs_close (id := 3) (by decide) (by decide) S.1 T' i10' i12' L5 ⟨fun _ => c1 (by decide), fun _ => c2 (by decide), fun _ => ?_, fun _ => c4 (by decide), fun _ => c5 (by decide), fun _ => c6 (by decide), fun _ => c7 (by decide), fun _ => c8 (by decide), fun _ => c9 (by decide), fun _ => c10 (by decide), c11, c12, d1, d3, d4, d5, d6⟩ ⟨hlo.1, hlo.2.2.2.2⟩ hpe
  have back : (l.map (fun v => v.2.1)).map (fun v => ((0, v, 0, -1, 0) : tImp)) = l := by
    rw [List.map_map]
    refine (List.map_congr_left (fun a ha => ?_)).trans (List.map_id l)
    obtain ⟨y, z, e1⟩ := hm a ha
    exact sp_ms_v (P := fun v => (fun v => ((0, v, 0, -1, 0) : tImp)) ((fun v => v.2.1) v) = v) (fun _ => rfl) e1
  have ES : spF (mk3 M p l) = spF M ++ l := by
    show _ ++ (l.map (fun v => v.2.1)).map (fun v => ((0, v, 0, -1, 0) : tImp)) = _
    rw [back]
    have e0 : M.2.2.1 = [] := hNil
    show _ = (_ ++ List.map _ _) ++ l
    rw [e0, List.map_nil, List.append_nil]
    rfl
  refine ⟨x, S.2.2.1, x1, x2, S.2.2.2.1, ?_, ?_, fun i v e => ?_⟩
  · rw [ES, List.length_append]; exact S.2.2.2.2.1
  · rw [ES, List.length_append]; omega
  · rw [ES] at e
    by_cases il : i < (spF M).length
    · rw [List.getElem?_append_left il] at e
      exact pr i v e
    · rw [List.getElem?_append_right (by omega)] at e
      have := C.1 _ v e
      rw [show (spF M).length + (i - (spF M).length) = i by omega] at this
      exact this
theorem adv_4 {H : pm_H} (K9 : pm_kd H 19 = 9) (i10 : pm_I H 19 10 = Int32.ofNat 4) : fX9_advance H 19 = (fX9_own H 19 (Int32.ofNat 1)).bind fun v => fX9_advance_b128 v 19 := by
  unfold fX9_advance fX9_advance_b0
  refine e9_t K9 ?_
  rw [i10]
  refine e9_t (by decide) (e9_l (e9_f (by decide) (e9_f (by decide) (e9_f (by decide) (e9_t (by decide) ?_)))))
  unfold fX9_advance_b118
  refine e9_t K9 ?_
  rw [i10, show Int32.ofNat 4 - 3 = Int32.ofNat 1 from by decide]
/-- section 4 as the class has read it -/
def mk4 (M : tMd) (p : Nat) (l : List tImp) : tMd := (M.1, M.2.1, M.2.2.1, (l.map (fun v => (v.2.1, v.2.2.1, v.2.2.2.1))), M.2.2.2.2.1, M.2.2.2.2.2.1, M.2.2.2.2.2.2.1, M.2.2.2.2.2.2.2.1, M.2.2.2.2.2.2.2.2.1, M.2.2.2.2.2.2.2.2.2.1, M.2.2.2.2.2.2.2.2.2.2.1, M.2.2.2.2.2.2.2.2.2.2.2.1, (sec1 M 4 p).2.2.2.2.2.2.2.2.2.2.2.2.1, liM M.2.2.2.2.2.2.2.2.2.2.2.2.2 p (decide (64 < l.length) || l.any (fun _ => false)))
theorem sec_4 (E : eng A h0) (hNil : M.2.2.2.1 = []) (hp2 : p2 + sz ≤ n) (hp : p < 2147483648) (LC : lC h2 n b mm me n d false B) (T : dT h2 b mm me sh) (i12 : pm_I h2 19 12 = Int32.ofNat last) (i5 : pm_I h2 19 5 = on3 M.2.2.2.2.2.2.2.2.2.2.2.2.2) (CM : cMx h2 mm lo (pm_sz h2) 0 M) (hlo : 19 < lo ∧ me < lo ∧ sh < lo ∧ b < lo ∧ mm < lo) (shb : sh ≠ b) (hli : ∀ x, M.2.2.2.2.2.2.2.2.2.2.2.2.2 = some x → x < 2147483648) (hN : (spT M).length ≤ 40960) (hi : i + 8 ≤ p) (hpp : p < p2) (F : pr_F A h0 (rc h (Int32.ofNat p) 0 q)) (K9 : pm_kd h 19 = 9) (go : pm_I h 19 10 = -1 ∧ pm_I h 19 2 = Int32.ofNat n) (hpn : p < n) (AD : fX9_advance (rc h (Int32.ofNat p) 0 q) 19 = (fX9_openSection_b93 (rc h2 (Int32.ofNat p2) 0 q) 19 (Int32.ofNat p) (Int32.ofNat 4) (Int64.ofNat sz)).bind fun v => fX9_advance_b138 v 19) : wSec A h0 n b mm me sh lo last p B q d (mk4 M p) (s69 n mm i (rc h (Int32.ofNat p) 0 q)) (sp_b (sp_num B (p2 + sz) p2) fun c p3 => sp_b (sp_rows ((fun p => sp_map (fun v : tTb => ((1, v.1, v.2.1, v.2.2, 0) : tImp)) (sp_tb B (p2 + sz) p))) c p3) fun l p' => if p' < p2 + sz then .inl (3, p') else .inr (l, p')) := by
  have n4 := LC.1.2.2.2.2.2.2.1
  refine sec_rows (σ := List tImp) (id := 4) (pl := p) (M1 := sec1 M 4 p) (L0 := fun c => xv (on3 M.2.2.2.2.2.2.2.2.2.2.2.2.2) (Int32.ofNat p) (decide (64 < c))) (P := pEnt) (k := 35) (w := 6) (j := 5) (N := (spT M).length) (pre := (spT M)) (bg := (fun _ => false)) (row := (fun p => sp_map (fun v : tTb => ((1, v.1, v.2.1, v.2.2, 0) : tImp)) (sp_tb B (p2 + sz) p))) (X := fun H => fX9_own H 19 (Int32.ofNat 1)) (mk := mk4 M p) (dd := d) E st_ent (by decide) (Nat.le_refl _) hlo shb hp2 n4 (by omega) hi hpp F K9 go hpn LC.1.2.2.2.2.2.2.2.2.2 AD (op_4 hp2 hp LC T i12 i5 CM hlo hN) (fun H K i10 => adv_4 K i10) (fun h x kept l p S C hk hp => rs_tb S rfl C hk hp q) ?_ (fun p v p' z hz => sp_ms_b (fun v p' z => sp_tb_b hz z) z)
  intro hx x l p' c hc _ O hpe hl hm
  obtain ⟨S, C, CX, ⟨x1, x2⟩, i10', i11', i12', l14, pr, l5⟩ := O
  have T' := S.2.1
  have L5 : pm_I hx 19 5 = on3 (mk4 M p l).2.2.2.2.2.2.2.2.2.2.2.2.2 := by rw [l5]; exact li_x hli _
  have CU := cMx_up (by decide) (Nat.le_of_lt x2) CX
  obtain ⟨c1, c2, c3, c4, c5, c6, c7, c8, c9, c10, c11, c12, d1, d3, d4, d5, d6⟩ := CU
  refine cs_close (id := 4) (by decide) (by decide) S.1 T' i10' i12' L5 ⟨fun _ => c1 (by decide), fun _ => c2 (by decide), fun _ => c3 (by decide), fun _ => ?_, fun _ => c5 (by decide), fun _ => c6 (by decide), fun _ => c7 (by decide), fun _ => c8 (by decide), fun _ => c9 (by decide), fun _ => c10 (by decide), c11, c12, d1, d3, d4, d5, d6⟩ ⟨hlo.1, hlo.2.2.2.2⟩ hpe
  have back : (l.map (fun v => (v.2.1, v.2.2.1, v.2.2.2.1))).map (fun v => ((1, v.1, v.2.1, v.2.2, 0) : tImp)) = l := by
    rw [List.map_map]
    refine (List.map_congr_left (fun a ha => ?_)).trans (List.map_id l)
    obtain ⟨y, z, e1⟩ := hm a ha
    exact sp_ms_v (P := fun v => (fun v => ((1, v.1, v.2.1, v.2.2, 0) : tImp)) ((fun v => (v.2.1, v.2.2.1, v.2.2.2.1)) v) = v) (fun _ => rfl) e1
  have ES : spT (mk4 M p l) = spT M ++ l := by
    show _ ++ (l.map (fun v => (v.2.1, v.2.2.1, v.2.2.2.1))).map (fun v => ((1, v.1, v.2.1, v.2.2, 0) : tImp)) = _
    rw [back]
    have e0 : M.2.2.2.1 = [] := hNil
    show _ = (_ ++ List.map _ _) ++ l
    rw [e0, List.map_nil, List.append_nil]
    rfl
  refine ⟨x, S.2.2.1, x1, x2, S.2.2.2.1, ?_, ?_, fun i v e => ?_⟩
  · rw [ES, List.length_append]; exact S.2.2.2.2.1
  · rw [ES, List.length_append]; omega
  · rw [ES] at e
    by_cases il : i < (spT M).length
    · rw [List.getElem?_append_left il] at e
      exact pr i v e
    · rw [List.getElem?_append_right (by omega)] at e
      have := C.1 _ v e
      rw [show (spT M).length + (i - (spT M).length) = i by omega] at this
      exact this
theorem adv_5 {H : pm_H} (K9 : pm_kd H 19 = 9) (i10 : pm_I H 19 10 = Int32.ofNat 5) : fX9_advance H 19 = (fX9_own H 19 (Int32.ofNat 2)).bind fun v => fX9_advance_b128 v 19 := by
  unfold fX9_advance fX9_advance_b0
  refine e9_t K9 ?_
  rw [i10]
  refine e9_t (by decide) (e9_l (e9_f (by decide) (e9_f (by decide) (e9_f (by decide) (e9_f (by decide) (e9_t (by decide) ?_))))))
  unfold fX9_advance_b118
  refine e9_t K9 ?_
  rw [i10, show Int32.ofNat 5 - 3 = Int32.ofNat 2 from by decide]
/-- section 5 as the class has read it -/
def mk5 (M : tMd) (p : Nat) (l : List tImp) : tMd := (M.1, M.2.1, M.2.2.1, M.2.2.2.1, (l.map (fun v => (v.2.2.1, v.2.2.2.1))), M.2.2.2.2.2.1, M.2.2.2.2.2.2.1, M.2.2.2.2.2.2.2.1, M.2.2.2.2.2.2.2.2.1, M.2.2.2.2.2.2.2.2.2.1, M.2.2.2.2.2.2.2.2.2.2.1, M.2.2.2.2.2.2.2.2.2.2.2.1, (sec1 M 5 p).2.2.2.2.2.2.2.2.2.2.2.2.1, liM M.2.2.2.2.2.2.2.2.2.2.2.2.2 p (decide (64 < l.length) || l.any (fun _ => false)))
theorem sec_5 (E : eng A h0) (hNil : M.2.2.2.2.1 = []) (hp2 : p2 + sz ≤ n) (hp : p < 2147483648) (LC : lC h2 n b mm me n d false B) (T : dT h2 b mm me sh) (i12 : pm_I h2 19 12 = Int32.ofNat last) (i5 : pm_I h2 19 5 = on3 M.2.2.2.2.2.2.2.2.2.2.2.2.2) (CM : cMx h2 mm lo (pm_sz h2) 0 M) (hlo : 19 < lo ∧ me < lo ∧ sh < lo ∧ b < lo ∧ mm < lo) (shb : sh ≠ b) (hli : ∀ x, M.2.2.2.2.2.2.2.2.2.2.2.2.2 = some x → x < 2147483648) (hN : (spM M).length ≤ 40960) (hi : i + 8 ≤ p) (hpp : p < p2) (F : pr_F A h0 (rc h (Int32.ofNat p) 0 q)) (K9 : pm_kd h 19 = 9) (go : pm_I h 19 10 = -1 ∧ pm_I h 19 2 = Int32.ofNat n) (hpn : p < n) (AD : fX9_advance (rc h (Int32.ofNat p) 0 q) 19 = (fX9_openSection_b93 (rc h2 (Int32.ofNat p2) 0 q) 19 (Int32.ofNat p) (Int32.ofNat 5) (Int64.ofNat sz)).bind fun v => fX9_advance_b138 v 19) : wSec A h0 n b mm me sh lo last p B q d (mk5 M p) (s69 n mm i (rc h (Int32.ofNat p) 0 q)) (sp_b (sp_num B (p2 + sz) p2) fun c p3 => sp_b (sp_rows ((fun p => sp_map (fun v : tMm => ((2, 0, v.1, v.2, 0) : tImp)) (sp_mm B (p2 + sz) p))) c p3) fun l p' => if p' < p2 + sz then .inl (3, p') else .inr (l, p')) := by
  have n4 := LC.1.2.2.2.2.2.2.1
  refine sec_rows (σ := List tImp) (id := 5) (pl := p) (M1 := sec1 M 5 p) (L0 := fun c => xv (on3 M.2.2.2.2.2.2.2.2.2.2.2.2.2) (Int32.ofNat p) (decide (64 < c))) (P := pEnt) (k := 35) (w := 6) (j := 6) (N := (spM M).length) (pre := (spM M)) (bg := (fun _ => false)) (row := (fun p => sp_map (fun v : tMm => ((2, 0, v.1, v.2, 0) : tImp)) (sp_mm B (p2 + sz) p))) (X := fun H => fX9_own H 19 (Int32.ofNat 2)) (mk := mk5 M p) (dd := d) E st_ent (by decide) (Nat.le_refl _) hlo shb hp2 n4 (by omega) hi hpp F K9 go hpn LC.1.2.2.2.2.2.2.2.2.2 AD (op_5 hp2 hp LC T i12 i5 CM hlo hN) (fun H K i10 => adv_5 K i10) (fun h x kept l p S C hk hp => rs_mm S rfl C hk hp q) ?_ (fun p v p' z hz => sp_ms_b (fun v p' z => sp_mm_b hz z) z)
  intro hx x l p' c hc _ O hpe hl hm
  obtain ⟨S, C, CX, ⟨x1, x2⟩, i10', i11', i12', l14, pr, l5⟩ := O
  have T' := S.2.1
  have L5 : pm_I hx 19 5 = on3 (mk5 M p l).2.2.2.2.2.2.2.2.2.2.2.2.2 := by rw [l5]; exact li_x hli _
  have CU := cMx_up (by decide) (Nat.le_of_lt x2) CX
  obtain ⟨c1, c2, c3, c4, c5, c6, c7, c8, c9, c10, c11, c12, d1, d3, d4, d5, d6⟩ := CU
  refine cs_close (id := 5) (by decide) (by decide) S.1 T' i10' i12' L5 ⟨fun _ => c1 (by decide), fun _ => c2 (by decide), fun _ => c3 (by decide), fun _ => c4 (by decide), fun _ => ?_, fun _ => c6 (by decide), fun _ => c7 (by decide), fun _ => c8 (by decide), fun _ => c9 (by decide), fun _ => c10 (by decide), c11, c12, d1, d3, d4, d5, d6⟩ ⟨hlo.1, hlo.2.2.2.2⟩ hpe
  have back : (l.map (fun v => (v.2.2.1, v.2.2.2.1))).map (fun v => ((2, 0, v.1, v.2, 0) : tImp)) = l := by
    rw [List.map_map]
    refine (List.map_congr_left (fun a ha => ?_)).trans (List.map_id l)
    obtain ⟨y, z, e1⟩ := hm a ha
    exact sp_ms_v (P := fun v => (fun v => ((2, 0, v.1, v.2, 0) : tImp)) ((fun v => (v.2.2.1, v.2.2.2.1)) v) = v) (fun _ => rfl) e1
  have ES : spM (mk5 M p l) = spM M ++ l := by
    show _ ++ (l.map (fun v => (v.2.2.1, v.2.2.2.1))).map (fun v => ((2, 0, v.1, v.2, 0) : tImp)) = _
    rw [back]
    have e0 : M.2.2.2.2.1 = [] := hNil
    show _ = (_ ++ List.map _ _) ++ l
    rw [e0, List.map_nil, List.append_nil]
    rfl
  refine ⟨x, S.2.2.1, x1, x2, S.2.2.2.1, ?_, ?_, fun i v e => ?_⟩
  · rw [ES, List.length_append]; exact S.2.2.2.2.1
  · rw [ES, List.length_append]; omega
  · rw [ES] at e
    by_cases il : i < (spM M).length
    · rw [List.getElem?_append_left il] at e
      exact pr i v e
    · rw [List.getElem?_append_right (by omega)] at e
      have := C.1 _ v e
      rw [show (spM M).length + (i - (spM M).length) = i by omega] at this
      exact this
theorem adv_6 {H : pm_H} (K9 : pm_kd H 19 = 9) (i10 : pm_I H 19 10 = Int32.ofNat 6) : fX9_advance H 19 = (fX9_own H 19 (Int32.ofNat 3)).bind fun v => fX9_advance_b128 v 19 := by
  unfold fX9_advance fX9_advance_b0
  refine e9_t K9 ?_
  rw [i10]
  refine e9_t (by decide) (e9_l (e9_f (by decide) (e9_f (by decide) (e9_f (by decide) (e9_f (by decide) (e9_f (by decide) (e9_t (by decide) ?_)))))))
  unfold fX9_advance_b118
  refine e9_t K9 ?_
  rw [i10, show Int32.ofNat 6 - 3 = Int32.ofNat 3 from by decide]
/-- section 6 as the class has read it -/
def mk6 (M : tMd) (p : Nat) (l : List (tImp × Nat)) : tMd := (M.1, M.2.1, M.2.2.1, M.2.2.2.1, M.2.2.2.2.1, (l.map (fun v => (v.1.2.1, v.1.2.2.2.2, v.2))), M.2.2.2.2.2.2.1, M.2.2.2.2.2.2.2.1, M.2.2.2.2.2.2.2.2.1, M.2.2.2.2.2.2.2.2.2.1, M.2.2.2.2.2.2.2.2.2.2.1, M.2.2.2.2.2.2.2.2.2.2.2.1, (sec1 M 6 p).2.2.2.2.2.2.2.2.2.2.2.2.1, liM M.2.2.2.2.2.2.2.2.2.2.2.2.2 p (decide (64 < l.length) || l.any (fun _ => false)))
theorem sec_6 (E : eng A h0) (hNil : M.2.2.2.2.2.1 = []) (hp2 : p2 + sz ≤ n) (hp : p < 2147483648) (LC : lC h2 n b mm me n d false B) (T : dT h2 b mm me sh) (i12 : pm_I h2 19 12 = Int32.ofNat last) (i5 : pm_I h2 19 5 = on3 M.2.2.2.2.2.2.2.2.2.2.2.2.2) (CM : cMx h2 mm lo (pm_sz h2) 0 M) (hlo : 19 < lo ∧ me < lo ∧ sh < lo ∧ b < lo ∧ mm < lo) (shb : sh ≠ b) (hli : ∀ x, M.2.2.2.2.2.2.2.2.2.2.2.2.2 = some x → x < 2147483648) (hN : (spG M).length ≤ 40960) (hi : i + 8 ≤ p) (hpp : p < p2) (F : pr_F A h0 (rc h (Int32.ofNat p) 0 q)) (K9 : pm_kd h 19 = 9) (go : pm_I h 19 10 = -1 ∧ pm_I h 19 2 = Int32.ofNat n) (hpn : p < n) (AD : fX9_advance (rc h (Int32.ofNat p) 0 q) 19 = (fX9_openSection_b93 (rc h2 (Int32.ofNat p2) 0 q) 19 (Int32.ofNat p) (Int32.ofNat 6) (Int64.ofNat sz)).bind fun v => fX9_advance_b138 v 19) : wSec A h0 n b mm me sh lo last p B q d (mk6 M p) (s69 n mm i (rc h (Int32.ofNat p) 0 q)) (sp_b (sp_num B (p2 + sz) p2) fun c p3 => sp_b (sp_rows ((fun p => sp_map (fun v : tGl => (((3, v.1, 0, -1, v.2.1), v.2.2) : tImp × Nat)) (sp_gl B (p2 + sz) d p))) c p3) fun l p' => if p' < p2 + sz then .inl (3, p') else .inr (l, p')) := by
  have n4 := LC.1.2.2.2.2.2.2.1
  refine sec_rows (σ := List (tImp × Nat)) (id := 6) (pl := p) (M1 := sec1 M 6 p) (L0 := fun c => xv (on3 M.2.2.2.2.2.2.2.2.2.2.2.2.2) (Int32.ofNat p) (decide (64 < c))) (P := pGe) (k := 35) (w := 6) (j := 7) (N := (spG M).length) (pre := (spG M)) (bg := (fun _ => false)) (row := (fun p => sp_map (fun v : tGl => (((3, v.1, 0, -1, v.2.1), v.2.2) : tImp × Nat)) (sp_gl B (p2 + sz) d p))) (X := fun H => fX9_own H 19 (Int32.ofNat 3)) (mk := mk6 M p) (dd := d) E st_ge (by decide) (Nat.le_refl _) hlo shb hp2 n4 (by omega) hi hpp F K9 go hpn LC.1.2.2.2.2.2.2.2.2.2 AD (op_6 hp2 hp LC T i12 i5 CM hlo hN) (fun H K i10 => adv_6 K i10) (fun h x kept l p S C hk hp => rs_gl S rfl C hk hp q) ?_ (fun p v p' z hz => sp_ms_b (fun v p' z => sp_gl_b hz z) z)
  intro hx x l p' c hc _ O hpe hl hm
  obtain ⟨S, C, CX, ⟨x1, x2⟩, i10', i11', i12', l14, pr, l5⟩ := O
  have T' := S.2.1
  have L5 : pm_I hx 19 5 = on3 (mk6 M p l).2.2.2.2.2.2.2.2.2.2.2.2.2 := by rw [l5]; exact li_x hli _
  have CU := cMx_up (by decide) (Nat.le_of_lt x2) CX
  obtain ⟨c1, c2, c3, c4, c5, c6, c7, c8, c9, c10, c11, c12, d1, d3, d4, d5, d6⟩ := CU
  refine cs_close (id := 6) (by decide) (by decide) S.1 T' i10' i12' L5 ⟨fun _ => c1 (by decide), fun _ => c2 (by decide), fun _ => c3 (by decide), fun _ => c4 (by decide), fun _ => c5 (by decide), fun _ => ?_, fun _ => c7 (by decide), fun _ => c8 (by decide), fun _ => c9 (by decide), fun _ => c10 (by decide), c11, c12, d1, d3, d4, d5, d6⟩ ⟨hlo.1, hlo.2.2.2.2⟩ hpe
  have back : (l.map (fun v => (v.1.2.1, v.1.2.2.2.2, v.2))).map (fun v => (((3, v.1, 0, -1, v.2.1), v.2.2) : tImp × Nat)) = l := by
    rw [List.map_map]
    refine (List.map_congr_left (fun a ha => ?_)).trans (List.map_id l)
    obtain ⟨y, z, e1⟩ := hm a ha
    exact sp_ms_v (P := fun v => (fun v => (((3, v.1, 0, -1, v.2.1), v.2.2) : tImp × Nat)) ((fun v => (v.1.2.1, v.1.2.2.2.2, v.2)) v) = v) (fun _ => rfl) e1
  have ES : spG (mk6 M p l) = spG M ++ l := by
    show _ ++ (l.map (fun v => (v.1.2.1, v.1.2.2.2.2, v.2))).map (fun v => (((3, v.1, 0, -1, v.2.1), v.2.2) : tImp × Nat)) = _
    rw [back]
    have e0 : M.2.2.2.2.2.1 = [] := hNil
    show _ = (_ ++ List.map _ _) ++ l
    rw [e0, List.map_nil, List.append_nil]
    rfl
  refine ⟨x, S.2.2.1, x1, x2, S.2.2.2.1, ?_, ?_, fun i v e => ?_⟩
  · rw [ES, List.length_append]; exact S.2.2.2.2.1
  · rw [ES, List.length_append]; omega
  · rw [ES] at e
    by_cases il : i < (spG M).length
    · rw [List.getElem?_append_left il] at e
      exact pr i v e
    · rw [List.getElem?_append_right (by omega)] at e
      have := C.1 _ v e
      rw [show (spG M).length + (i - (spG M).length) = i by omega] at this
      exact this
end SECS
