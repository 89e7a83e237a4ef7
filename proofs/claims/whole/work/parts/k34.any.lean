/-! THE CLASS READS: any section -/
/-- as sp_sec reads, but for the limit: the class notes more than 64 bodies also -/
def sp_secC (B : Nat → Nat) (e : Nat) (d : Bool) (id pl : Nat) (M : tMd) (p : Nat) : sp_O tMd := if id = 10 then sp_b (sp_boS B e d p) fun l p' => .inr ((M.1, M.2.1, M.2.2.1, M.2.2.2.1, M.2.2.2.2.1, M.2.2.2.2.2.1, M.2.2.2.2.2.2.1, M.2.2.2.2.2.2.2.1, M.2.2.2.2.2.2.2.2.1, l, M.2.2.2.2.2.2.2.2.2.2.1, M.2.2.2.2.2.2.2.2.2.2.2.1, M.2.2.2.2.2.2.2.2.2.2.2.2.1, liM M.2.2.2.2.2.2.2.2.2.2.2.2.2 pl (decide (64 < l.length) || l.any bigB)), p') else sp_sec B e d id pl M p
theorem any_f {α : Type} (l : List α) : l.any (fun _ => false) = false := by
  induction l with
  | nil => rfl
  | cons a l ih => rw [List.any_cons, ih]; rfl
section UN
variable {A : Nat → Prop} {h0 h h2 : pm_H} {n b mm me sh lo last e p p2 sz i id : Nat} {d : Bool} {B : Nat → Nat} {M : tMd} {q : Int32}
theorem w_un {σ : Type} {mk mk' : σ → tMd} {X : Option pm_H} {dd : Bool} {o1 : sp_O σ} (hg : ∀ l, mk l = mk' l) (W : wSec A h0 n b mm me sh lo last p B q dd mk X (sp_b o1 fun l p' => if p' < e then .inl (3, p') else .inr (l, p'))) : wSec A h0 n b mm me sh lo last p B q dd (fun v : tMd => v) X (sp_b (sp_b o1 fun l p' => (.inr (mk' l, p') : sp_O tMd)) fun M2 p3 => if p3 < e then .inl (3, p3) else .inr (M2, p3)) := by
  cases o1 with
  | inl z => exact W
  | inr z =>
    obtain ⟨v, p'⟩ := z
    rw [sp_br] at W
    rw [sp_br, sp_br]
    by_cases c : p' < e
    · rw [if_pos c] at W ⊢
      exact W
    · rw [if_neg c] at W ⊢
      rw [← hg]
      exact W
theorem w_un2 {σ τ : Type} {mk : σ → tMd} {g : τ → σ} {mk' : τ → tMd} {X : Option pm_H} {dd : Bool} {o2 : sp_O τ} (hg : ∀ l, mk (g l) = mk' l) (W : wSec A h0 n b mm me sh lo last p B q dd mk X (sp_b (sp_map g o2) fun l p' => if p' < e then .inl (3, p') else .inr (l, p'))) : wSec A h0 n b mm me sh lo last p B q dd (fun v : tMd => v) X (sp_b (sp_b o2 fun l p' => (.inr (mk' l, p') : sp_O tMd)) fun M2 p3 => if p3 < e then .inl (3, p3) else .inr (M2, p3)) := by
  cases o2 with
  | inl z => exact W
  | inr z =>
    obtain ⟨v, p'⟩ := z
    rw [show sp_map g (.inr (v, p')) = (.inr (g v, p') : sp_O σ) from rfl, sp_br] at W
    rw [sp_br, sp_br]
    by_cases c : p' < e
    · rw [if_pos c] at W ⊢
      exact W
    · rw [if_neg c] at W ⊢
      rw [← hg]
      exact W
theorem num_map {α β : Type} (f : α → β) (row : Nat → sp_O α) (o : sp_O Nat) : (sp_b o fun c p3 => sp_rows (fun p => sp_map f (row p)) c p3) = sp_map (List.map f) (sp_b o fun c p3 => sp_rows row c p3) := by
  rw [map_b]
  cases o with
  | inl z => rfl
  | inr z => exact rows_map f row z.1 z.2
theorem map_gf {α β : Type} {f : α → β} {g : β → α} (h : ∀ a, g (f a) = a) (l : List α) : (l.map f).map g = l := by
  rw [List.map_map]
  exact (List.map_congr_left (fun a _ => h a)).trans (List.map_id l)
theorem d_id (hd : d = isS (M.2.2.2.2.2.2.2.2.2.2.2.2.1 12)) (h12 : id ≠ 12) : d = isS ((sec1 M id p).2.2.2.2.2.2.2.2.2.2.2.2.1 12) := by
  rw [hd]
  show _ = isS (if id ≠ 0 ∧ 12 = id then some p else _)
  rw [if_neg (fun z => h12 z.2.symm)]

theorem any_0 (E : eng A h0) (hp2 : p2 + sz ≤ n) (hp : p < 2147483648) (C : clS h2 n b mm me sh lo last d B M) (hlo : 19 < lo ∧ me < lo ∧ sh < lo ∧ b < lo ∧ mm < lo) (shb : sh ≠ b) (hli : ∀ x, M.2.2.2.2.2.2.2.2.2.2.2.2.2 = some x → x < 2147483648) (hi : i + 8 ≤ p) (hpp : p < p2) (F : pr_F A h0 (rc h (Int32.ofNat p) 0 q)) (K9 : pm_kd h 19 = 9) (go : pm_I h 19 10 = -1 ∧ pm_I h 19 2 = Int32.ofNat n) (hpn : p < n) (AD : fX9_advance (rc h (Int32.ofNat p) 0 q) 19 = (fX9_openSection_b93 (rc h2 (Int32.ofNat p2) 0 q) 19 (Int32.ofNat p) (Int32.ofNat 0) (Int64.ofNat sz)).bind fun v => fX9_advance_b138 v 19) (hd : d = isS (M.2.2.2.2.2.2.2.2.2.2.2.2.1 12)) : wSec A h0 n b mm me sh lo last p B q (isS ((sec1 M 0 p).2.2.2.2.2.2.2.2.2.2.2.2.1 12)) (fun v : tMd => v) (s69 n mm i (rc h (Int32.ofNat p) 0 q)) (sp_b (sp_secC B (p2 + sz) d 0 p (sec1 M 0 p) p2) fun M2 p3 => if p3 < p2 + sz then .inl (3, p3) else .inr (M2, p3)) := by
  obtain ⟨CM, LC, T, -, i12, i5⟩ := C
  have W := sec_0 E hp2 hp LC T i12 i5 CM hlo hi hpp F K9 go hpn AD
  rw [← d_id (p := p) hd (by decide : 0 ≠ 12)]
  unfold sp_secC sp_sec
  rw [if_neg (show ¬ 0 = 10 by decide), if_pos (show (0 : Nat) = 0 from rfl)]
  have W2 := w_un (mk' := fun _ => sec1 M 0 p) (fun _ => rfl) W
  have e0 : sp_b (sp_b (sp_name B (p2 + sz) p2) fun _ _ => (.inr ((), p2 + sz) : sp_O Unit)) (fun _ p' => (.inr (sec1 M 0 p, p') : sp_O tMd)) = sp_b (sp_name B (p2 + sz) p2) fun _ _ => .inr (sec1 M 0 p, p2 + sz) := sp_bb _ _ _
  rw [e0] at W2
  exact W2
theorem any_1 (E : eng A h0) (hp2 : p2 + sz ≤ n) (hp : p < 2147483648) (C : clS h2 n b mm me sh lo last d B M) (hlo : 19 < lo ∧ me < lo ∧ sh < lo ∧ b < lo ∧ mm < lo) (shb : sh ≠ b) (hli : ∀ x, M.2.2.2.2.2.2.2.2.2.2.2.2.2 = some x → x < 2147483648) (hi : i + 8 ≤ p) (hpp : p < p2) (F : pr_F A h0 (rc h (Int32.ofNat p) 0 q)) (K9 : pm_kd h 19 = 9) (go : pm_I h 19 10 = -1 ∧ pm_I h 19 2 = Int32.ofNat n) (hpn : p < n) (AD : fX9_advance (rc h (Int32.ofNat p) 0 q) 19 = (fX9_openSection_b93 (rc h2 (Int32.ofNat p2) 0 q) 19 (Int32.ofNat p) (Int32.ofNat 1) (Int64.ofNat sz)).bind fun v => fX9_advance_b138 v 19) (hd : d = isS (M.2.2.2.2.2.2.2.2.2.2.2.2.1 12)) : wSec A h0 n b mm me sh lo last p B q (isS ((sec1 M 1 p).2.2.2.2.2.2.2.2.2.2.2.2.1 12)) (fun v : tMd => v) (s69 n mm i (rc h (Int32.ofNat p) 0 q)) (sp_b (sp_secC B (p2 + sz) d 1 p (sec1 M 1 p) p2) fun M2 p3 => if p3 < p2 + sz then .inl (3, p3) else .inr (M2, p3)) := by
  obtain ⟨CM, LC, T, -, i12, i5⟩ := C
  have W := sec_1 E hp2 hp LC T i12 i5 CM hlo shb hli hi hpp F K9 go hpn AD
  rw [← d_id (p := p) hd (by decide : 1 ≠ 12)]
  unfold sp_secC sp_sec
  rw [if_neg (show ¬ 1 = 10 by decide), if_neg (show ¬ 1 = 0 by decide), if_pos (show (1 : Nat) = 1 from rfl)]
  have W2 : wSec A h0 n b mm me sh lo last p B q d (mk1 M p) (s69 n mm i (rc h (Int32.ofNat p) 0 q)) (sp_b (sp_tyS B (p2 + sz) p2) fun l p' => if p' < p2 + sz then .inl (3, p') else .inr (l, p')) := by
    unfold sp_tyS
    rw [sp_bb]
    exact W
  exact w_un (fun l => rfl) W2
theorem any_2 (E : eng A h0) (hp2 : p2 + sz ≤ n) (hp : p < 2147483648) (C : clS h2 n b mm me sh lo last d B M) (hlo : 19 < lo ∧ me < lo ∧ sh < lo ∧ b < lo ∧ mm < lo) (shb : sh ≠ b) (hli : ∀ x, M.2.2.2.2.2.2.2.2.2.2.2.2.2 = some x → x < 2147483648) (hi : i + 8 ≤ p) (hpp : p < p2) (F : pr_F A h0 (rc h (Int32.ofNat p) 0 q)) (K9 : pm_kd h 19 = 9) (go : pm_I h 19 10 = -1 ∧ pm_I h 19 2 = Int32.ofNat n) (hpn : p < n) (hM : M.2.2.1 = [] ∧ M.2.2.2.1 = [] ∧ M.2.2.2.2.1 = [] ∧ M.2.2.2.2.2.1 = []) (AD : fX9_advance (rc h (Int32.ofNat p) 0 q) 19 = (fX9_openSection_b93 (rc h2 (Int32.ofNat p2) 0 q) 19 (Int32.ofNat p) (Int32.ofNat 2) (Int64.ofNat sz)).bind fun v => fX9_advance_b138 v 19) (hd : d = isS (M.2.2.2.2.2.2.2.2.2.2.2.2.1 12)) : wSec A h0 n b mm me sh lo last p B q (isS ((sec1 M 2 p).2.2.2.2.2.2.2.2.2.2.2.2.1 12)) (fun v : tMd => v) (s69 n mm i (rc h (Int32.ofNat p) 0 q)) (sp_b (sp_secC B (p2 + sz) d 2 p (sec1 M 2 p) p2) fun M2 p3 => if p3 < p2 + sz then .inl (3, p3) else .inr (M2, p3)) := by
  obtain ⟨CM, LC, T, -, i12, i5⟩ := C
  have W := sec_2 E hp2 hp LC T i12 i5 CM hlo shb hli hM hi hpp F K9 go hpn AD
  rw [← d_id (p := p) hd (by decide : 2 ≠ 12)]
  unfold sp_secC sp_sec
  rw [if_neg (show ¬ 2 = 10 by decide), if_neg (show ¬ 2 = 0 by decide), if_neg (show ¬ 2 = 1 by decide), if_pos (show (2 : Nat) = 2 from rfl)]
  have W2 : wSec A h0 n b mm me sh lo last p B q d (mk2 M p) (s69 n mm i (rc h (Int32.ofNat p) 0 q)) (sp_b (sp_impS B (p2 + sz) p2) fun l p' => if p' < p2 + sz then .inl (3, p') else .inr (l, p')) := by
    unfold sp_impS
    rw [sp_bb]
    exact W
  refine w_un (fun l => ?_) W2
  unfold mk2
  rw [any_f, Bool.or_false]
  rfl
theorem any_3 (E : eng A h0) (hp2 : p2 + sz ≤ n) (hp : p < 2147483648) (C : clS h2 n b mm me sh lo last d B M) (hlo : 19 < lo ∧ me < lo ∧ sh < lo ∧ b < lo ∧ mm < lo) (shb : sh ≠ b) (hli : ∀ x, M.2.2.2.2.2.2.2.2.2.2.2.2.2 = some x → x < 2147483648) (hi : i + 8 ≤ p) (hpp : p < p2) (F : pr_F A h0 (rc h (Int32.ofNat p) 0 q)) (K9 : pm_kd h 19 = 9) (go : pm_I h 19 10 = -1 ∧ pm_I h 19 2 = Int32.ofNat n) (hpn : p < n) (hNil : M.2.2.1 = []) (hN : M.2.1.length ≤ 40960) (AD : fX9_advance (rc h (Int32.ofNat p) 0 q) 19 = (fX9_openSection_b93 (rc h2 (Int32.ofNat p2) 0 q) 19 (Int32.ofNat p) (Int32.ofNat 3) (Int64.ofNat sz)).bind fun v => fX9_advance_b138 v 19) (hd : d = isS (M.2.2.2.2.2.2.2.2.2.2.2.2.1 12)) : wSec A h0 n b mm me sh lo last p B q (isS ((sec1 M 3 p).2.2.2.2.2.2.2.2.2.2.2.2.1 12)) (fun v : tMd => v) (s69 n mm i (rc h (Int32.ofNat p) 0 q)) (sp_b (sp_secC B (p2 + sz) d 3 p (sec1 M 3 p) p2) fun M2 p3 => if p3 < p2 + sz then .inl (3, p3) else .inr (M2, p3)) := by
  obtain ⟨CM, LC, T, -, i12, i5⟩ := C
  have hN2 : (spF M).length ≤ 40960 := by
    unfold spF
    rw [hNil, List.map_nil, List.append_nil]
    exact Nat.le_trans (List.length_filter_le _ _) hN
  have W := sec_3 E hNil hp2 hp LC T i12 i5 CM hlo shb hli hN2 hi hpp F K9 go hpn AD
  rw [← d_id (p := p) hd (by decide : 3 ≠ 12)]
  unfold sp_secC sp_sec
  rw [if_neg (show ¬ 3 = 10 by decide), if_neg (show ¬ 3 = 0 by decide), if_neg (show ¬ 3 = 1 by decide), if_neg (show ¬ 3 = 2 by decide), if_pos (show (3 : Nat) = 3 from rfl)]
  have W2 : wSec A h0 n b mm me sh lo last p B q d (mk3 M p) (s69 n mm i (rc h (Int32.ofNat p) 0 q)) (sp_b (sp_map (List.map (fun v : tFn => ((0, v, 0, -1, 0) : tImp))) (sp_fnS B (p2 + sz) p2)) fun l p' => if p' < p2 + sz then .inl (3, p') else .inr (l, p')) := by
    unfold sp_fnS
    rw [← num_map, sp_bb]
    exact W
  refine w_un2 (fun l => ?_) W2
  unfold mk3
  rw [map_gf (fun _ => rfl), any_f, Bool.or_false, List.length_map]
  rfl
theorem any_4 (E : eng A h0) (hp2 : p2 + sz ≤ n) (hp : p < 2147483648) (C : clS h2 n b mm me sh lo last d B M) (hlo : 19 < lo ∧ me < lo ∧ sh < lo ∧ b < lo ∧ mm < lo) (shb : sh ≠ b) (hli : ∀ x, M.2.2.2.2.2.2.2.2.2.2.2.2.2 = some x → x < 2147483648) (hi : i + 8 ≤ p) (hpp : p < p2) (F : pr_F A h0 (rc h (Int32.ofNat p) 0 q)) (K9 : pm_kd h 19 = 9) (go : pm_I h 19 10 = -1 ∧ pm_I h 19 2 = Int32.ofNat n) (hpn : p < n) (hNil : M.2.2.2.1 = []) (hN : M.2.1.length ≤ 40960) (AD : fX9_advance (rc h (Int32.ofNat p) 0 q) 19 = (fX9_openSection_b93 (rc h2 (Int32.ofNat p2) 0 q) 19 (Int32.ofNat p) (Int32.ofNat 4) (Int64.ofNat sz)).bind fun v => fX9_advance_b138 v 19) (hd : d = isS (M.2.2.2.2.2.2.2.2.2.2.2.2.1 12)) : wSec A h0 n b mm me sh lo last p B q (isS ((sec1 M 4 p).2.2.2.2.2.2.2.2.2.2.2.2.1 12)) (fun v : tMd => v) (s69 n mm i (rc h (Int32.ofNat p) 0 q)) (sp_b (sp_secC B (p2 + sz) d 4 p (sec1 M 4 p) p2) fun M2 p3 => if p3 < p2 + sz then .inl (3, p3) else .inr (M2, p3)) := by
  obtain ⟨CM, LC, T, -, i12, i5⟩ := C
  have hN2 : (spT M).length ≤ 40960 := by
    unfold spT
    rw [hNil, List.map_nil, List.append_nil]
    exact Nat.le_trans (List.length_filter_le _ _) hN
  have W := sec_4 E hNil hp2 hp LC T i12 i5 CM hlo shb hli hN2 hi hpp F K9 go hpn AD
  rw [← d_id (p := p) hd (by decide : 4 ≠ 12)]
  unfold sp_secC sp_sec
  rw [if_neg (show ¬ 4 = 10 by decide), if_neg (show ¬ 4 = 0 by decide), if_neg (show ¬ 4 = 1 by decide), if_neg (show ¬ 4 = 2 by decide), if_neg (show ¬ 4 = 3 by decide), if_pos (show (4 : Nat) = 4 from rfl)]
  have W2 : wSec A h0 n b mm me sh lo last p B q d (mk4 M p) (s69 n mm i (rc h (Int32.ofNat p) 0 q)) (sp_b (sp_map (List.map (fun v : tTb => ((1, v.1, v.2.1, v.2.2, 0) : tImp))) (sp_tbS B (p2 + sz) p2)) fun l p' => if p' < p2 + sz then .inl (3, p') else .inr (l, p')) := by
    unfold sp_tbS
    rw [← num_map, sp_bb]
    exact W
  refine w_un2 (fun l => ?_) W2
  unfold mk4
  rw [map_gf (fun _ => rfl), any_f, Bool.or_false, List.length_map]
  rfl
theorem any_5 (E : eng A h0) (hp2 : p2 + sz ≤ n) (hp : p < 2147483648) (C : clS h2 n b mm me sh lo last d B M) (hlo : 19 < lo ∧ me < lo ∧ sh < lo ∧ b < lo ∧ mm < lo) (shb : sh ≠ b) (hli : ∀ x, M.2.2.2.2.2.2.2.2.2.2.2.2.2 = some x → x < 2147483648) (hi : i + 8 ≤ p) (hpp : p < p2) (F : pr_F A h0 (rc h (Int32.ofNat p) 0 q)) (K9 : pm_kd h 19 = 9) (go : pm_I h 19 10 = -1 ∧ pm_I h 19 2 = Int32.ofNat n) (hpn : p < n) (hNil : M.2.2.2.2.1 = []) (hN : M.2.1.length ≤ 40960) (AD : fX9_advance (rc h (Int32.ofNat p) 0 q) 19 = (fX9_openSection_b93 (rc h2 (Int32.ofNat p2) 0 q) 19 (Int32.ofNat p) (Int32.ofNat 5) (Int64.ofNat sz)).bind fun v => fX9_advance_b138 v 19) (hd : d = isS (M.2.2.2.2.2.2.2.2.2.2.2.2.1 12)) : wSec A h0 n b mm me sh lo last p B q (isS ((sec1 M 5 p).2.2.2.2.2.2.2.2.2.2.2.2.1 12)) (fun v : tMd => v) (s69 n mm i (rc h (Int32.ofNat p) 0 q)) (sp_b (sp_secC B (p2 + sz) d 5 p (sec1 M 5 p) p2) fun M2 p3 => if p3 < p2 + sz then .inl (3, p3) else .inr (M2, p3)) := by
  obtain ⟨CM, LC, T, -, i12, i5⟩ := C
  have hN2 : (spM M).length ≤ 40960 := by
    unfold spM
    rw [hNil, List.map_nil, List.append_nil]
    exact Nat.le_trans (List.length_filter_le _ _) hN
  have W := sec_5 E hNil hp2 hp LC T i12 i5 CM hlo shb hli hN2 hi hpp F K9 go hpn AD
  rw [← d_id (p := p) hd (by decide : 5 ≠ 12)]
  unfold sp_secC sp_sec
  rw [if_neg (show ¬ 5 = 10 by decide), if_neg (show ¬ 5 = 0 by decide), if_neg (show ¬ 5 = 1 by decide), if_neg (show ¬ 5 = 2 by decide), if_neg (show ¬ 5 = 3 by decide), if_neg (show ¬ 5 = 4 by decide), if_pos (show (5 : Nat) = 5 from rfl)]
  have W2 : wSec A h0 n b mm me sh lo last p B q d (mk5 M p) (s69 n mm i (rc h (Int32.ofNat p) 0 q)) (sp_b (sp_map (List.map (fun v : tMm => ((2, 0, v.1, v.2, 0) : tImp))) (sp_mmS B (p2 + sz) p2)) fun l p' => if p' < p2 + sz then .inl (3, p') else .inr (l, p')) := by
    unfold sp_mmS
    rw [← num_map, sp_bb]
    exact W
  refine w_un2 (fun l => ?_) W2
  unfold mk5
  rw [map_gf (fun _ => rfl), any_f, Bool.or_false, List.length_map]
  rfl
theorem any_6 (E : eng A h0) (hp2 : p2 + sz ≤ n) (hp : p < 2147483648) (C : clS h2 n b mm me sh lo last d B M) (hlo : 19 < lo ∧ me < lo ∧ sh < lo ∧ b < lo ∧ mm < lo) (shb : sh ≠ b) (hli : ∀ x, M.2.2.2.2.2.2.2.2.2.2.2.2.2 = some x → x < 2147483648) (hi : i + 8 ≤ p) (hpp : p < p2) (F : pr_F A h0 (rc h (Int32.ofNat p) 0 q)) (K9 : pm_kd h 19 = 9) (go : pm_I h 19 10 = -1 ∧ pm_I h 19 2 = Int32.ofNat n) (hpn : p < n) (hNil : M.2.2.2.2.2.1 = []) (hN : M.2.1.length ≤ 40960) (AD : fX9_advance (rc h (Int32.ofNat p) 0 q) 19 = (fX9_openSection_b93 (rc h2 (Int32.ofNat p2) 0 q) 19 (Int32.ofNat p) (Int32.ofNat 6) (Int64.ofNat sz)).bind fun v => fX9_advance_b138 v 19) (hd : d = isS (M.2.2.2.2.2.2.2.2.2.2.2.2.1 12)) : wSec A h0 n b mm me sh lo last p B q (isS ((sec1 M 6 p).2.2.2.2.2.2.2.2.2.2.2.2.1 12)) (fun v : tMd => v) (s69 n mm i (rc h (Int32.ofNat p) 0 q)) (sp_b (sp_secC B (p2 + sz) d 6 p (sec1 M 6 p) p2) fun M2 p3 => if p3 < p2 + sz then .inl (3, p3) else .inr (M2, p3)) := by
  obtain ⟨CM, LC, T, -, i12, i5⟩ := C
  have hN2 : (spG M).length ≤ 40960 := by
    unfold spG
    rw [hNil, List.map_nil, List.append_nil]
    rw [List.length_map]
    exact Nat.le_trans (List.length_filter_le _ _) hN
  have W := sec_6 E hNil hp2 hp LC T i12 i5 CM hlo shb hli hN2 hi hpp F K9 go hpn AD
  rw [← d_id (p := p) hd (by decide : 6 ≠ 12)]
  unfold sp_secC sp_sec
  rw [if_neg (show ¬ 6 = 10 by decide), if_neg (show ¬ 6 = 0 by decide), if_neg (show ¬ 6 = 1 by decide), if_neg (show ¬ 6 = 2 by decide), if_neg (show ¬ 6 = 3 by decide), if_neg (show ¬ 6 = 4 by decide), if_neg (show ¬ 6 = 5 by decide), if_pos (show (6 : Nat) = 6 from rfl)]
  have W2 : wSec A h0 n b mm me sh lo last p B q d (mk6 M p) (s69 n mm i (rc h (Int32.ofNat p) 0 q)) (sp_b (sp_map (List.map (fun v : tGl => (((3, v.1, 0, -1, v.2.1), v.2.2) : tImp × Nat))) (sp_glS B (p2 + sz) d p2)) fun l p' => if p' < p2 + sz then .inl (3, p') else .inr (l, p')) := by
    unfold sp_glS
    rw [← num_map, sp_bb]
    exact W
  refine w_un2 (fun l => ?_) W2
  unfold mk6
  rw [map_gf (fun _ => rfl), any_f, Bool.or_false, List.length_map]
  rfl
theorem any_7 (E : eng A h0) (hp2 : p2 + sz ≤ n) (hp : p < 2147483648) (C : clS h2 n b mm me sh lo last d B M) (hlo : 19 < lo ∧ me < lo ∧ sh < lo ∧ b < lo ∧ mm < lo) (shb : sh ≠ b) (hli : ∀ x, M.2.2.2.2.2.2.2.2.2.2.2.2.2 = some x → x < 2147483648) (hi : i + 8 ≤ p) (hpp : p < p2) (F : pr_F A h0 (rc h (Int32.ofNat p) 0 q)) (K9 : pm_kd h 19 = 9) (go : pm_I h 19 10 = -1 ∧ pm_I h 19 2 = Int32.ofNat n) (hpn : p < n) (AD : fX9_advance (rc h (Int32.ofNat p) 0 q) 19 = (fX9_openSection_b93 (rc h2 (Int32.ofNat p2) 0 q) 19 (Int32.ofNat p) (Int32.ofNat 7) (Int64.ofNat sz)).bind fun v => fX9_advance_b138 v 19) (hd : d = isS (M.2.2.2.2.2.2.2.2.2.2.2.2.1 12)) : wSec A h0 n b mm me sh lo last p B q (isS ((sec1 M 7 p).2.2.2.2.2.2.2.2.2.2.2.2.1 12)) (fun v : tMd => v) (s69 n mm i (rc h (Int32.ofNat p) 0 q)) (sp_b (sp_secC B (p2 + sz) d 7 p (sec1 M 7 p) p2) fun M2 p3 => if p3 < p2 + sz then .inl (3, p3) else .inr (M2, p3)) := by
  obtain ⟨CM, LC, T, -, i12, i5⟩ := C
  have W := sec_7 E hp2 hp LC T i12 i5 CM hlo shb hli hi hpp F K9 go hpn AD
  rw [← d_id (p := p) hd (by decide : 7 ≠ 12)]
  unfold sp_secC sp_sec
  rw [if_neg (show ¬ 7 = 10 by decide), if_neg (show ¬ 7 = 0 by decide), if_neg (show ¬ 7 = 1 by decide), if_neg (show ¬ 7 = 2 by decide), if_neg (show ¬ 7 = 3 by decide), if_neg (show ¬ 7 = 4 by decide), if_neg (show ¬ 7 = 5 by decide), if_neg (show ¬ 7 = 6 by decide), if_pos (show (7 : Nat) = 7 from rfl)]
  have W2 : wSec A h0 n b mm me sh lo last p B q d (mk7 M p) (s69 n mm i (rc h (Int32.ofNat p) 0 q)) (sp_b (sp_xpS B (p2 + sz) p2) fun l p' => if p' < p2 + sz then .inl (3, p') else .inr (l, p')) := by
    unfold sp_xpS
    rw [sp_bb]
    exact W
  refine w_un (fun l => ?_) W2
  unfold mk7
  rw [any_f, Bool.or_false]
  rfl
theorem any_8 (E : eng A h0) (hp2 : p2 + sz ≤ n) (hp : p < 2147483648) (C : clS h2 n b mm me sh lo last d B M) (hlo : 19 < lo ∧ me < lo ∧ sh < lo ∧ b < lo ∧ mm < lo) (shb : sh ≠ b) (hli : ∀ x, M.2.2.2.2.2.2.2.2.2.2.2.2.2 = some x → x < 2147483648) (hi : i + 8 ≤ p) (hpp : p < p2) (F : pr_F A h0 (rc h (Int32.ofNat p) 0 q)) (K9 : pm_kd h 19 = 9) (go : pm_I h 19 10 = -1 ∧ pm_I h 19 2 = Int32.ofNat n) (hpn : p < n) (AD : fX9_advance (rc h (Int32.ofNat p) 0 q) 19 = (fX9_openSection_b93 (rc h2 (Int32.ofNat p2) 0 q) 19 (Int32.ofNat p) (Int32.ofNat 8) (Int64.ofNat sz)).bind fun v => fX9_advance_b138 v 19) (hd : d = isS (M.2.2.2.2.2.2.2.2.2.2.2.2.1 12)) : wSec A h0 n b mm me sh lo last p B q (isS ((sec1 M 8 p).2.2.2.2.2.2.2.2.2.2.2.2.1 12)) (fun v : tMd => v) (s69 n mm i (rc h (Int32.ofNat p) 0 q)) (sp_b (sp_secC B (p2 + sz) d 8 p (sec1 M 8 p) p2) fun M2 p3 => if p3 < p2 + sz then .inl (3, p3) else .inr (M2, p3)) := by
  obtain ⟨CM, LC, T, -, i12, i5⟩ := C
  have W := sec_8 E hp2 hp LC T i12 i5 CM hlo hi hpp F K9 go hpn AD
  rw [← d_id (p := p) hd (by decide : 8 ≠ 12)]
  unfold sp_secC sp_sec
  rw [if_neg (show ¬ 8 = 10 by decide), if_neg (show ¬ 8 = 0 by decide), if_neg (show ¬ 8 = 1 by decide), if_neg (show ¬ 8 = 2 by decide), if_neg (show ¬ 8 = 3 by decide), if_neg (show ¬ 8 = 4 by decide), if_neg (show ¬ 8 = 5 by decide), if_neg (show ¬ 8 = 6 by decide), if_neg (show ¬ 8 = 7 by decide), if_pos (show (8 : Nat) = 8 from rfl)]
  exact w_un (fun _ => rfl) W
theorem any_9 (E : eng A h0) (hp2 : p2 + sz ≤ n) (hp : p < 2147483648) (C : clS h2 n b mm me sh lo last d B M) (hlo : 19 < lo ∧ me < lo ∧ sh < lo ∧ b < lo ∧ mm < lo) (shb : sh ≠ b) (hli : ∀ x, M.2.2.2.2.2.2.2.2.2.2.2.2.2 = some x → x < 2147483648) (hi : i + 8 ≤ p) (hpp : p < p2) (F : pr_F A h0 (rc h (Int32.ofNat p) 0 q)) (K9 : pm_kd h 19 = 9) (go : pm_I h 19 10 = -1 ∧ pm_I h 19 2 = Int32.ofNat n) (hpn : p < n) (AD : fX9_advance (rc h (Int32.ofNat p) 0 q) 19 = (fX9_openSection_b93 (rc h2 (Int32.ofNat p2) 0 q) 19 (Int32.ofNat p) (Int32.ofNat 9) (Int64.ofNat sz)).bind fun v => fX9_advance_b138 v 19) (hd : d = isS (M.2.2.2.2.2.2.2.2.2.2.2.2.1 12)) : wSec A h0 n b mm me sh lo last p B q (isS ((sec1 M 9 p).2.2.2.2.2.2.2.2.2.2.2.2.1 12)) (fun v : tMd => v) (s69 n mm i (rc h (Int32.ofNat p) 0 q)) (sp_b (sp_secC B (p2 + sz) d 9 p (sec1 M 9 p) p2) fun M2 p3 => if p3 < p2 + sz then .inl (3, p3) else .inr (M2, p3)) := by
  obtain ⟨CM, LC, T, -, i12, i5⟩ := C
  have W := sec_9 E hp2 hp LC T i12 i5 CM hlo shb hli hi hpp F K9 go hpn AD
  rw [← d_id (p := p) hd (by decide : 9 ≠ 12)]
  unfold sp_secC sp_sec
  rw [if_neg (show ¬ 9 = 10 by decide), if_neg (show ¬ 9 = 0 by decide), if_neg (show ¬ 9 = 1 by decide), if_neg (show ¬ 9 = 2 by decide), if_neg (show ¬ 9 = 3 by decide), if_neg (show ¬ 9 = 4 by decide), if_neg (show ¬ 9 = 5 by decide), if_neg (show ¬ 9 = 6 by decide), if_neg (show ¬ 9 = 7 by decide), if_neg (show ¬ 9 = 8 by decide), if_pos (show (9 : Nat) = 9 from rfl)]
  have W2 : wSec A h0 n b mm me sh lo last p B q d (mk9 M p) (s69 n mm i (rc h (Int32.ofNat p) 0 q)) (sp_b (sp_elS B (p2 + sz) d p2) fun l p' => if p' < p2 + sz then .inl (3, p') else .inr (l, p')) := by
    unfold sp_elS
    rw [sp_bb]
    exact W
  refine w_un (fun l => ?_) W2
  unfold mk9
  rw [any_f, Bool.or_false]
  rfl
theorem any_10 (E : eng A h0) (hp2 : p2 + sz ≤ n) (hp : p < 2147483648) (C : clS h2 n b mm me sh lo last d B M) (hlo : 19 < lo ∧ me < lo ∧ sh < lo ∧ b < lo ∧ mm < lo) (shb : sh ≠ b) (hli : ∀ x, M.2.2.2.2.2.2.2.2.2.2.2.2.2 = some x → x < 2147483648) (hi : i + 8 ≤ p) (hpp : p < p2) (F : pr_F A h0 (rc h (Int32.ofNat p) 0 q)) (K9 : pm_kd h 19 = 9) (go : pm_I h 19 10 = -1 ∧ pm_I h 19 2 = Int32.ofNat n) (hpn : p < n) (AD : fX9_advance (rc h (Int32.ofNat p) 0 q) 19 = (fX9_openSection_b93 (rc h2 (Int32.ofNat p2) 0 q) 19 (Int32.ofNat p) (Int32.ofNat 10) (Int64.ofNat sz)).bind fun v => fX9_advance_b138 v 19) (hd : d = isS (M.2.2.2.2.2.2.2.2.2.2.2.2.1 12)) : wSec A h0 n b mm me sh lo last p B q (isS ((sec1 M 10 p).2.2.2.2.2.2.2.2.2.2.2.2.1 12)) (fun v : tMd => v) (s69 n mm i (rc h (Int32.ofNat p) 0 q)) (sp_b (sp_secC B (p2 + sz) d 10 p (sec1 M 10 p) p2) fun M2 p3 => if p3 < p2 + sz then .inl (3, p3) else .inr (M2, p3)) := by
  obtain ⟨CM, LC, T, -, i12, i5⟩ := C
  have W := sec_10 E hp2 hp LC T i12 i5 CM hlo shb hli hi hpp F K9 go hpn AD
  rw [← d_id (p := p) hd (by decide : 10 ≠ 12)]
  unfold sp_secC
  rw [if_pos (show (10 : Nat) = 10 from rfl)]
  have W2 : wSec A h0 n b mm me sh lo last p B q d (mk10 M p) (s69 n mm i (rc h (Int32.ofNat p) 0 q)) (sp_b (sp_boS B (p2 + sz) d p2) fun l p' => if p' < p2 + sz then .inl (3, p') else .inr (l, p')) := by
    unfold sp_boS
    rw [sp_bb]
    exact W
  exact w_un (fun l => rfl) W2
theorem any_11 (E : eng A h0) (hp2 : p2 + sz ≤ n) (hp : p < 2147483648) (C : clS h2 n b mm me sh lo last d B M) (hlo : 19 < lo ∧ me < lo ∧ sh < lo ∧ b < lo ∧ mm < lo) (shb : sh ≠ b) (hli : ∀ x, M.2.2.2.2.2.2.2.2.2.2.2.2.2 = some x → x < 2147483648) (hi : i + 8 ≤ p) (hpp : p < p2) (F : pr_F A h0 (rc h (Int32.ofNat p) 0 q)) (K9 : pm_kd h 19 = 9) (go : pm_I h 19 10 = -1 ∧ pm_I h 19 2 = Int32.ofNat n) (hpn : p < n) (AD : fX9_advance (rc h (Int32.ofNat p) 0 q) 19 = (fX9_openSection_b93 (rc h2 (Int32.ofNat p2) 0 q) 19 (Int32.ofNat p) (Int32.ofNat 11) (Int64.ofNat sz)).bind fun v => fX9_advance_b138 v 19) (hd : d = isS (M.2.2.2.2.2.2.2.2.2.2.2.2.1 12)) : wSec A h0 n b mm me sh lo last p B q (isS ((sec1 M 11 p).2.2.2.2.2.2.2.2.2.2.2.2.1 12)) (fun v : tMd => v) (s69 n mm i (rc h (Int32.ofNat p) 0 q)) (sp_b (sp_secC B (p2 + sz) d 11 p (sec1 M 11 p) p2) fun M2 p3 => if p3 < p2 + sz then .inl (3, p3) else .inr (M2, p3)) := by
  obtain ⟨CM, LC, T, -, i12, i5⟩ := C
  have W := sec_11 E hp2 hp LC T i12 i5 CM hlo shb hli hi hpp F K9 go hpn AD
  rw [← d_id (p := p) hd (by decide : 11 ≠ 12)]
  unfold sp_secC sp_sec
  rw [if_neg (show ¬ 11 = 10 by decide), if_neg (show ¬ 11 = 0 by decide), if_neg (show ¬ 11 = 1 by decide), if_neg (show ¬ 11 = 2 by decide), if_neg (show ¬ 11 = 3 by decide), if_neg (show ¬ 11 = 4 by decide), if_neg (show ¬ 11 = 5 by decide), if_neg (show ¬ 11 = 6 by decide), if_neg (show ¬ 11 = 7 by decide), if_neg (show ¬ 11 = 8 by decide), if_neg (show ¬ 11 = 9 by decide), if_neg (show ¬ 11 = 10 by decide), if_pos (show (11 : Nat) = 11 from rfl)]
  have W2 : wSec A h0 n b mm me sh lo last p B q d (mk11 M p) (s69 n mm i (rc h (Int32.ofNat p) 0 q)) (sp_b (sp_daS B (p2 + sz) d p2) fun l p' => if p' < p2 + sz then .inl (3, p') else .inr (l, p')) := by
    unfold sp_daS
    rw [sp_bb]
    exact W
  refine w_un (fun l => ?_) W2
  unfold mk11
  rw [any_f, Bool.or_false]
  rfl
theorem any_12 (E : eng A h0) (hp2 : p2 + sz ≤ n) (hp : p < 2147483648) (C : clS h2 n b mm me sh lo last d B M) (hlo : 19 < lo ∧ me < lo ∧ sh < lo ∧ b < lo ∧ mm < lo) (shb : sh ≠ b) (hli : ∀ x, M.2.2.2.2.2.2.2.2.2.2.2.2.2 = some x → x < 2147483648) (hi : i + 8 ≤ p) (hpp : p < p2) (F : pr_F A h0 (rc h (Int32.ofNat p) 0 q)) (K9 : pm_kd h 19 = 9) (go : pm_I h 19 10 = -1 ∧ pm_I h 19 2 = Int32.ofNat n) (hpn : p < n) (AD : fX9_advance (rc h (Int32.ofNat p) 0 q) 19 = (fX9_openSection_b93 (rc h2 (Int32.ofNat p2) 0 q) 19 (Int32.ofNat p) (Int32.ofNat 12) (Int64.ofNat sz)).bind fun v => fX9_advance_b138 v 19) (hd : d = isS (M.2.2.2.2.2.2.2.2.2.2.2.2.1 12)) : wSec A h0 n b mm me sh lo last p B q (isS ((sec1 M 12 p).2.2.2.2.2.2.2.2.2.2.2.2.1 12)) (fun v : tMd => v) (s69 n mm i (rc h (Int32.ofNat p) 0 q)) (sp_b (sp_secC B (p2 + sz) d 12 p (sec1 M 12 p) p2) fun M2 p3 => if p3 < p2 + sz then .inl (3, p3) else .inr (M2, p3)) := by
  obtain ⟨CM, LC, T, -, i12, i5⟩ := C
  have W := sec_12 E hp2 hp LC T i12 i5 CM hlo hi hpp F K9 go hpn AD
  unfold sp_secC sp_sec
  rw [if_neg (show ¬ 12 = 10 by decide), if_neg (show ¬ 12 = 0 by decide), if_neg (show ¬ 12 = 1 by decide), if_neg (show ¬ 12 = 2 by decide), if_neg (show ¬ 12 = 3 by decide), if_neg (show ¬ 12 = 4 by decide), if_neg (show ¬ 12 = 5 by decide), if_neg (show ¬ 12 = 6 by decide), if_neg (show ¬ 12 = 7 by decide), if_neg (show ¬ 12 = 8 by decide), if_neg (show ¬ 12 = 9 by decide), if_neg (show ¬ 12 = 10 by decide), if_neg (show ¬ 12 = 11 by decide)]
  exact w_un (fun _ => rfl) W
/-- what holds by the order of the sections -/
def ordI (last : Nat) (M : tMd) : Prop := (last < 3 → M.2.2.1 = []) ∧ (last < 4 → M.2.2.2.1 = []) ∧ (last < 5 → M.2.2.2.2.1 = []) ∧ (last < 6 → M.2.2.2.2.2.1 = []) ∧ M.2.1.length ≤ 40960
theorem sec_any (E : eng A h0) (hp2 : p2 + sz ≤ n) (hp : p < 2147483648) (C : clS h2 n b mm me sh lo last d B M) (hlo : 19 < lo ∧ me < lo ∧ sh < lo ∧ b < lo ∧ mm < lo) (shb : sh ≠ b) (hli : ∀ x, M.2.2.2.2.2.2.2.2.2.2.2.2.2 = some x → x < 2147483648) (hi : i + 8 ≤ p) (hpp : p < p2) (F : pr_F A h0 (rc h (Int32.ofNat p) 0 q)) (K9 : pm_kd h 19 = 9) (go : pm_I h 19 10 = -1 ∧ pm_I h 19 2 = Int32.ofNat n) (hpn : p < n) {l0 : Nat} (hid : id < 13) (O : ordI l0 M) (hl : id = 0 ∨ l0 < rk id) (AD : fX9_advance (rc h (Int32.ofNat p) 0 q) 19 = (fX9_openSection_b93 (rc h2 (Int32.ofNat p2) 0 q) 19 (Int32.ofNat p) (Int32.ofNat id) (Int64.ofNat sz)).bind fun v => fX9_advance_b138 v 19) (hd : d = isS (M.2.2.2.2.2.2.2.2.2.2.2.2.1 12)) : wSec A h0 n b mm me sh lo last p B q (isS ((sec1 M id p).2.2.2.2.2.2.2.2.2.2.2.2.1 12)) (fun v : tMd => v) (s69 n mm i (rc h (Int32.ofNat p) 0 q)) (sp_b (sp_secC B (p2 + sz) d id p (sec1 M id p) p2) fun M2 p3 => if p3 < p2 + sz then .inl (3, p3) else .inr (M2, p3)) := by
  obtain ⟨o3, o4, o5, o6, oI⟩ := O
  by_cases c0 : id = 0
  · subst c0; exact any_0 E hp2 hp C hlo shb hli hi hpp F K9 go hpn AD hd
  by_cases c1 : id = 1
  · subst c1; exact any_1 E hp2 hp C hlo shb hli hi hpp F K9 go hpn AD hd
  by_cases c2 : id = 2
  · subst c2; have hr : l0 < 2 := by { rcases hl with z | z; { exact absurd z (by decide) }; { exact z } }; exact any_2 E hp2 hp C hlo shb hli hi hpp F K9 go hpn ⟨o3 (by omega), o4 (by omega), o5 (by omega), o6 (by omega)⟩ AD hd
  by_cases c3 : id = 3
  · subst c3; have hr : l0 < 3 := by { rcases hl with z | z; { exact absurd z (by decide) }; { exact z } }; exact any_3 E hp2 hp C hlo shb hli hi hpp F K9 go hpn (o3 hr) oI AD hd
  by_cases c4 : id = 4
  · subst c4; have hr : l0 < 4 := by { rcases hl with z | z; { exact absurd z (by decide) }; { exact z } }; exact any_4 E hp2 hp C hlo shb hli hi hpp F K9 go hpn (o4 hr) oI AD hd
  by_cases c5 : id = 5
  · subst c5; have hr : l0 < 5 := by { rcases hl with z | z; { exact absurd z (by decide) }; { exact z } }; exact any_5 E hp2 hp C hlo shb hli hi hpp F K9 go hpn (o5 hr) oI AD hd
  by_cases c6 : id = 6
  · subst c6; have hr : l0 < 6 := by { rcases hl with z | z; { exact absurd z (by decide) }; { exact z } }; exact any_6 E hp2 hp C hlo shb hli hi hpp F K9 go hpn (o6 hr) oI AD hd
  by_cases c7 : id = 7
  · subst c7; exact any_7 E hp2 hp C hlo shb hli hi hpp F K9 go hpn AD hd
  by_cases c8 : id = 8
  · subst c8; exact any_8 E hp2 hp C hlo shb hli hi hpp F K9 go hpn AD hd
  by_cases c9 : id = 9
  · subst c9; exact any_9 E hp2 hp C hlo shb hli hi hpp F K9 go hpn AD hd
  by_cases c10 : id = 10
  · subst c10; exact any_10 E hp2 hp C hlo shb hli hi hpp F K9 go hpn AD hd
  by_cases c11 : id = 11
  · subst c11; exact any_11 E hp2 hp C hlo shb hli hi hpp F K9 go hpn AD hd
  by_cases c12 : id = 12
  · subst c12; exact any_12 E hp2 hp C hlo shb hli hi hpp F K9 go hpn AD hd
  omega
end UN