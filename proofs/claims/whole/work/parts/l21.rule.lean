/-! THE REFERENCE CHECKS: rules for an instruction's step -/
def uAI (x y : Nat) : Prop := (x = 592 ∧ (y = 19 ∨ y = 23 ∨ y = 24)) ∨ (599 ≤ x ∧ x ≤ 604)
abbrev uF : pm_H → pm_H → Prop := gF uAI vAL
theorem uF_v {m : Nat} {h h' : pm_H} (F : uF h h') : vF m h h' := gF_m F (fun x y z => by unfold uAI at z; unfold vAI; omega) (fun x y z => z)
theorem uF_t {h h' : pm_H} (F : tF h h') : uF h h' := gF_m F (fun x y z => by unfold tAI at z; unfold uAI; omega) (fun x y z => z)
theorem uF_lk (h : pm_H) (v : Int32) : uF h (pm_setI h 592 19 v) := gF_I h v (.inl ⟨rfl, .inl rfl⟩)
theorem uF_y {h h' : pm_H} (F : uF h h') {y : Nat} (h1 : y ≠ 19) (h2 : y ≠ 23) (h3 : y ≠ 24) : pm_I h' 592 y = pm_I h 592 y := F.2.2.2.2.1 592 y (by unfold uAI; omega)
theorem vK_lk {h : pm_H} {p : Nat} {K : tK} (V : vK h p K) (x : Nat) : vK (lk h x) p K := by
  obtain ⟨v1, v2, v3, v4, v5⟩ := V
  exact ⟨(lk_y (by decide)).trans v1, (lk_y (by decide)).trans v2, (lk_y (by decide)).trans v3, onR_k (fun y _ => lk_I (by decide)) v4, onL_k (fun y _ => ⟨lk_I (by decide), rfl, lk_I (by decide), lk_I (by decide)⟩) v5⟩
theorem vK_s {h : pm_H} {p : Nat} {K K' : tK} (e1 : K'.1 = K.1) (e2 : K'.2.1 = K.2.1) (V : vK h p K) : vK h p K' := by
  unfold vK
  rw [e1, e2]
  exact V
theorem kEm_1 (K : tK) (op a b c hb : Int32) : (kEm K op a b c hb).1 = K.1 ∧ (kEm K op a b c hb).2.1 = K.2.1 := by
  unfold kEm
  split <;> exact ⟨rfl, rfl⟩
theorem wfK_s {M : tMd} {K K' : tK} (e1 : K'.1 = K.1) (e2 : K'.2.1 = K.2.1) (W : wfK M K) : wfK M K' := by
  unfold wfK
  rw [e1, e2]
  exact W
theorem kEm_w {M : tMd} {K : tK} {op a b c hb : Int32} (W : wfK M K) : wfK M (kEm K op a b c hb) := wfK_s (kEm_1 K op a b c hb).1 (kEm_1 K op a b c hb).2 W
/-- labels that are alike but for what hangs on them -/
def lSm : List tLb → List tLb → Prop
  | [], [] => True
  | l :: ls, k :: ks => (k.1 = l.1 ∧ k.2.1 = l.2.1 ∧ k.2.2.1 = l.2.2.1 ∧ k.2.2.2.1 = l.2.2.2.1) ∧ lSm ls ks
  | _, _ => False
theorem lSm_r : ∀ (l : List tLb), lSm l l
  | [] => trivial
  | _ :: ls => ⟨⟨rfl, rfl, rfl, rfl⟩, lSm_r ls⟩
theorem lSm_set {v : tLb} : ∀ (ls : List tLb) (x : Nat), (v.1 = (ls.getD x lb0).1 ∧ v.2.1 = (ls.getD x lb0).2.1 ∧ v.2.2.1 = (ls.getD x lb0).2.2.1 ∧ v.2.2.2.1 = (ls.getD x lb0).2.2.2.1) → lSm ls (ls.set x v)
  | [], _, _ => trivial
  | _ :: ls, 0, h => ⟨h, lSm_r ls⟩
  | _ :: ls, x + 1, h => ⟨⟨rfl, rfl, rfl, rfl⟩, lSm_set ls x h⟩
theorem lSm_l : ∀ {ls ks : List tLb}, lSm ls ks → ks.length = ls.length
  | [], [], _ => rfl
  | _ :: _, _ :: _, h => congrArg (· + 1) (lSm_l h.2)
  | [], _ :: _, h => h.elim
  | _ :: _, [], h => h.elim
theorem lSm_on {h : pm_H} : ∀ {ls ks : List tLb}, lSm ls ks → onL h ls → onL h ks
  | [], [], _, _ => trivial
  | l :: ls, k :: ks, s, q => by
    obtain ⟨⟨e1, e2, e3, e4⟩, s⟩ := s
    have hl := lSm_l s
    obtain ⟨⟨q1, q2, q3, q4⟩, q⟩ := q
    unfold onL
    rw [hl, e1, e2, e3, e4]
    exact ⟨⟨q1, q2, q3, q4⟩, lSm_on s q⟩
  | [], _ :: _, s, _ => s.elim
  | _ :: _, [], s, _ => s.elim
theorem lSm_wf : ∀ {ls ks : List tLb} {s : Nat}, lSm ls ks → wfL ls s → wfL ks s
  | [], [], _, _, _ => trivial
  | l :: ls, k :: ks, s, e, q => by
    obtain ⟨⟨e1, e2, e3, e4⟩, e⟩ := e
    unfold wfL
    rw [e3]
    exact ⟨q.1, lSm_wf e q.2⟩
  | [], _ :: _, _, s, _ => s.elim
  | _ :: _, [], _, s, _ => s.elim
theorem lSm_al {P : Nat → Int64 → Prop} : ∀ {ls ks : List tLb}, lSm ls ks → (∀ l, l ∈ ls → P l.1 l.2.1) → ∀ l, l ∈ ks → P l.1 l.2.1
  | [], [], _, _ => fun l hl => absurd hl List.not_mem_nil
  | a :: ls, k :: ks, e, q => by
    intro l hl
    obtain ⟨⟨e1, e2, e3, e4⟩, e⟩ := e
    rcases List.mem_cons.mp hl with z | z
    · rw [z, e1, e2]; exact q a List.mem_cons_self
    · exact lSm_al e (fun l hl => q l (List.mem_cons_of_mem _ hl)) l z
  | [], _ :: _, s, _ => s.elim
  | _ :: _, [], s, _ => s.elim
theorem lSm_g : ∀ {ls ks : List tLb} (x : Nat), lSm ls ks → (ks.getD x lb0).1 = (ls.getD x lb0).1 ∧ (ks.getD x lb0).2.1 = (ls.getD x lb0).2.1 ∧ (ks.getD x lb0).2.2.1 = (ls.getD x lb0).2.2.1 ∧ (ks.getD x lb0).2.2.2.1 = (ls.getD x lb0).2.2.2.1
  | [], [], _, _ => ⟨rfl, rfl, rfl, rfl⟩
  | _ :: _, _ :: _, 0, e => e.1
  | _ :: _, _ :: _, x + 1, e => lSm_g x e.2
  | [], _ :: _, _, s => s.elim
  | _ :: _, [], _, s => s.elim
theorem vK_m {h : pm_H} {p : Nat} {K K' : tK} (e1 : K'.1 = K.1) (e2 : lSm K.2.1 K'.2.1) (V : vK h p K) : vK h p K' := by
  obtain ⟨v1, v2, v3, v4, v5⟩ := V
  unfold vK
  rw [e1, lSm_l e2]
  exact ⟨v1, v2, v3, v4, lSm_on e2 v5⟩
theorem wfK_m {M : tMd} {K K' : tK} (e1 : K'.1 = K.1) (e2 : lSm K.2.1 K'.2.1) (W : wfK M K) : wfK M K' := by
  obtain ⟨w1, w2, w3, w4, w5⟩ := W
  unfold wfK
  rw [e1, lSm_l e2]
  exact ⟨lSm_wf e2 w1, lSm_al (P := fun a t => wfT M t ∧ a ≤ 5) e2 w2, w3, w4, w5⟩
theorem kBr_m (M : tMd) (op hb : Int32) (x : Nat) (K : tK) : (kBr M op hb x K).1 = K.1 ∧ lSm K.2.1 (kBr M op hb x K).2.1 := by
  unfold kBr
  by_cases c : kAl K = true
  · rw [if_pos c]
    refine ⟨rfl, ?_⟩
    by_cases d : (K.2.1.getD x lb0).1 = 3
    · show lSm K.2.1 (if (K.2.1.getD x lb0).1 = 3 then K.2.1 else _)
      rw [if_pos d]; exact lSm_r _
    · show lSm K.2.1 (if (K.2.1.getD x lb0).1 = 3 then K.2.1 else _)
      rw [if_neg d]; exact lSm_set _ _ ⟨rfl, rfl, rfl, rfl⟩
  · rw [if_neg c]; exact ⟨rfl, lSm_r _⟩
theorem kBr_w {M : tMd} {op hb : Int32} {x : Nat} {K : tK} (W : wfK M K) : wfK M (kBr M op hb x K) := wfK_m (kBr_m M op hb x K).1 (kBr_m M op hb x K).2 W
/-- a state on the way: K0 is where it began -/
def uI (h : pm_H) (M : tMd) (p : Nat) (K0 K : tK) (r : pm_H) : Prop := uF h r ∧ vK r p K ∧ wfK M K ∧ lSm K0.2.1 K.2.1
abbrev vU (h : pm_H) (p : Nat) (K' : tK) (_ : Nat) (r : pm_H) : Prop := uF h r ∧ vK r p K'
theorem sp_as {α β γ : Type} {o : sp_O α} {f : α → Nat → sp_O β} {g : β → Nat → sp_O γ} : sp_b (sp_b o f) g = sp_b o fun v p => sp_b (f v p) g := by
  cases o with
  | inl w => rfl
  | inr v => rfl
section URULE
variable {h r : pm_H} {n b m eo el p w : Nat} {B : Nat → Nat} {M : tMd} {K0 K : tK} {t : Int64} {β ρ : Type} {F : pm_H → Prop} {R : β → Nat → ρ → Prop}
theorem uI_0 (V : vK h p K) (W : wfK M K) (x : Nat) : uI h M p K K (lk h x) := ⟨uF_lk h _, vK_lk V x, W, lSm_r _⟩
theorem uI_lk (I : uI h M p K0 K r) (x : Nat) : uI h M p K0 K (lk r x) := ⟨gF_t I.1 (uF_lk r _), vK_lk I.2.1 x, I.2.2⟩
theorem uI_C (C : vC h n b m eo el B M) (I : uI h M p K0 K r) : vC r n b m eo el B M := vC_F C (uF_v I.1)
theorem uI_l (I : uI h M p K0 K r) (hl : 0 < K0.2.1.length) : 0 < K.2.1.length := by rw [lSm_l I.2.2.2]; exact hl
theorem lSm_t {a b c : List tLb} (e1 : lSm a b) (e2 : b = c) : lSm a c := e2 ▸ e1
theorem u_take {k : Int32 × pm_H → Option ((Nat × pm_H) ⊕ ρ)} {k' : Nat × tK → Nat → sp_O β} (C : vC h n b m eo el B M) (I : uI h M p K0 K r) (hl : 0 < K0.2.1.length) (hw : w = 0 ∨ isT w) (hk : ∀ v z r', kTake p w K = .inr (v, z) → (v.1 = 0 ∨ isT v.1) → uI h M p K0 v.2 r' → ms_Q (vF m h) R (k (rT v.1, r')) (k' v z)) : ms_Q (vF m h) R ((fX16_take r 592 (Int32.ofNat w)).bind fun w => pt_k w k) (sp_b (kTake p w K) k') := by
  refine q_c (v_take (uI_C C I) I.2.1 I.2.2.1 (uI_l I hl) hw) (fun h' F => gF_t (uF_v I.1) F) ?_
  rintro v z r' e ⟨h', er, F, V'⟩
  subst er
  obtain ⟨w1, w2, w3, w4⟩ := kTake_w I.2.2.1 e
  exact hk v z h' e w3 ⟨gF_t I.1 (uF_t F), V', w1, lSm_t I.2.2.2 (by rw [w2])⟩
theorem u_takes {k : pm_H → Option ((Nat × pm_H) ⊕ ρ)} {k' : tK → Nat → sp_O β} (C : vC h n b m eo el B M) (I : uI h M p K0 K r) (hl : 0 < K0.2.1.length) (hw : w = 0 ∨ isT w) (c : Nat) (hc : c < 2147483648) (hk : ∀ K' z r', uI h M p K0 K' r' → ms_Q (vF m h) R (k r') (k' K' z)) : ms_Q (vF m h) R ((fX16_takes r 592 (Int32.ofNat w) (Int32.ofNat c)).bind fun w => pt_k w k) (sp_b (kTakeN p (fun _ => w) c K) k') := by
  unfold fX16_takes
  have q := v_takes (uI_C C I) I.2.1 I.2.2.1 (uI_l I hl) hw c hc c (uI_C C I) I.2.1 I.2.2.1 (uI_l I hl) (Nat.le_refl c)
  rw [Nat.sub_self] at q
  refine q_c q (fun h' F => gF_t (uF_v I.1) F) ?_
  rintro K' z r' e ⟨F, V'⟩
  obtain ⟨w1, w2, w3⟩ := kTakeN_w I.2.2.1 e
  exact hk K' z r' ⟨gF_t I.1 (uF_t F), V', w1, lSm_t I.2.2.2 (by rw [w2])⟩
theorem u_tk1 {k : pm_H → Option ((Nat × pm_H) ⊕ ρ)} {k' : tK → Nat → sp_O β} (C : vC h n b m eo el B M) (I : uI h M p K0 K r) (hl : 0 < K0.2.1.length) (hw : isT w) (hk : ∀ K' z r', uI h M p K0 K' r' → ms_Q (vF m h) R (k r') (k' K' z)) : ms_Q (vF m h) R ((fX16_takes r 592 (Int32.ofNat w) (Int32.ofNat 1)).bind fun w => pt_k w k) (sp_b (kTk p w K) k') := by
  have e : kTk p w K = kTakeN p (fun _ => w) 1 K := by
    unfold kTk
    rw [if_neg (fun z => by rw [z] at hw; exact absurd hw (by decide))]
    rfl
  rw [e]
  exact u_takes C I hl (.inr hw) 1 (by decide) hk
theorem kk2 {k' : tK → Nat → sp_O β} (w0 : ¬ w = 0) : (sp_b (kTk p w K) fun K1 _ => sp_b (kTk p w K1) k') = sp_b (kTakeN p (fun _ => w) 2 K) k' := by
  unfold kTk kTakeN
  rw [if_neg w0, sp_as, sp_as]
  refine congrArg (sp_b _) (funext fun v => funext fun z => ?_)
  show sp_b (if w = 0 then _ else _) k' = _
  rw [if_neg w0]
  rfl
theorem kk3 {k' : tK → Nat → sp_O β} (w0 : ¬ w = 0) : (sp_b (kTk p w K) fun K1 _ => sp_b (kTk p w K1) fun K2 _ => sp_b (kTk p w K2) k') = sp_b (kTakeN p (fun _ => w) 3 K) k' := by
  have e : (fun (K1 : tK) (_ : Nat) => sp_b (kTk p w K1) fun K2 _ => sp_b (kTk p w K2) k') = fun K1 _ => sp_b (kTakeN p (fun _ => w) 2 K1) k' := funext fun K1 => funext fun _ => kk2 w0
  rw [e]
  unfold kTk
  rw [if_neg w0, sp_as, kTakeN, sp_as]
  rfl
theorem u_tk2 {k : pm_H → Option ((Nat × pm_H) ⊕ ρ)} {k' : tK → Nat → sp_O β} (C : vC h n b m eo el B M) (I : uI h M p K0 K r) (hl : 0 < K0.2.1.length) (hw : isT w) (hk : ∀ K' z r', uI h M p K0 K' r' → ms_Q (vF m h) R (k r') (k' K' z)) : ms_Q (vF m h) R ((fX16_takes r 592 (Int32.ofNat w) (Int32.ofNat 2)).bind fun w => pt_k w k) (sp_b (kTk p w K) fun K1 _ => sp_b (kTk p w K1) k') := by
  rw [kk2 (fun z => by rw [z] at hw; exact absurd hw (by decide))]
  exact u_takes C I hl (.inr hw) 2 (by decide) hk
theorem u_tk3 {k : pm_H → Option ((Nat × pm_H) ⊕ ρ)} {k' : tK → Nat → sp_O β} (C : vC h n b m eo el B M) (I : uI h M p K0 K r) (hl : 0 < K0.2.1.length) (hw : isT w) (hk : ∀ K' z r', uI h M p K0 K' r' → ms_Q (vF m h) R (k r') (k' K' z)) : ms_Q (vF m h) R ((fX16_takes r 592 (Int32.ofNat w) (Int32.ofNat 3)).bind fun w => pt_k w k) (sp_b (kTk p w K) fun K1 _ => sp_b (kTk p w K1) fun K2 _ => sp_b (kTk p w K2) k') := by
  rw [kk3 (fun z => by rw [z] at hw; exact absurd hw (by decide))]
  exact u_takes C I hl (.inr hw) 3 (by decide) hk
theorem u_put {k : pm_H → Option ((Nat × pm_H) ⊕ ρ)} {k' : tK → Nat → sp_O β} (C : vC h n b m eo el B M) (I : uI h M p K0 K r) (hw : w = 0 ∨ isT w) (hk : ∀ K' z r', kPut p w K = .inr (K', z) → uI h M p K0 K' r' → ms_Q (vF m h) R (k r') (k' K' z)) : ms_Q (vF m h) R ((fX16_put r 592 (rT w)).bind fun w => pt_k w k) (sp_b (kPut p w K) k') := by
  refine q_c (v_put (uI_C C I) I.2.1 I.2.2.1 hw) (fun h' F => gF_t (uF_v I.1) F) ?_
  rintro K' z r' e ⟨F, V'⟩
  obtain ⟨w1, w2, w3⟩ := kPut_w I.2.2.1 hw e
  exact hk K' z r' e ⟨gF_t I.1 (uF_t F), V', w1, lSm_t I.2.2.2 (by rw [w2])⟩
theorem u_pt {k : pm_H → Option ((Nat × pm_H) ⊕ ρ)} {k' : tK → Nat → sp_O β} (C : vC h n b m eo el B M) (I : uI h M p K0 K r) (hw : isT w) (hk : ∀ K' z r', uI h M p K0 K' r' → ms_Q (vF m h) R (k r') (k' K' z)) : ms_Q (vF m h) R ((fX16_put r 592 (Int32.ofNat w)).bind fun w => pt_k w k) (sp_b (kPt p w K) k') := by
  have e : kPt p w K = kPut p w K := by
    unfold kPt
    rw [if_neg (fun z => by rw [z] at hw; exact absurd hw (by decide))]
  rw [e, ← rT_t hw]
  exact u_put C I (.inr hw) (fun K' z r' _ => hk K' z r')
theorem u_ptu {k : pm_H → Option ((Nat × pm_H) ⊕ ρ)} {k' : tK → Nat → sp_O β} (C : vC h n b m eo el B M) (I : uI h M p K0 K r) (hw : isT w) (hk : ∀ K' z r', uI h M p K0 K' r' → ms_Q (vF m h) R (k r') (k' K' z)) : ms_Q (vF m h) R ((fX16_put r 592 (Int32.ofNat w)).bind fun w => pt_k w k) (sp_b (kPut p w K) k') := by
  rw [← rT_t hw]
  exact u_put C I (.inr hw) (fun K' z r' _ => hk K' z r')
theorem u_call {x : Option ((Nat × pm_H) ⊕ pm_H)} {o : sp_O tK} {k : pm_H → Option ((Nat × pm_H) ⊕ ρ)} {k' : tK → Nat → sp_O β} (Q : ms_Q (vF m r) (fun K' _ r' => vT r p K' r') x o) (I : uI h M p K0 K r) (w : ∀ K' z, o = .inr (K', z) → wfK M K' ∧ K'.2 = K.2) (hk : ∀ K' z r', o = .inr (K', z) → uI h M p K0 K' r' → ms_Q (vF m h) R (k r') (k' K' z)) : ms_Q (vF m h) R (x.bind fun w => pt_k w k) (sp_b o k') := by
  refine q_c Q (fun h' F => gF_t (uF_v I.1) F) ?_
  rintro K' z r' e ⟨F, V'⟩
  obtain ⟨w1, w2⟩ := w K' z e
  exact hk K' z r' e ⟨gF_t I.1 (uF_t F), V', w1, lSm_t I.2.2.2 (by rw [w2])⟩
theorem u_tP {k : pm_H → Option ((Nat × pm_H) ⊕ ρ)} {k' : tK → Nat → sp_O β} (C : vC h n b m eo el B M) (I : uI h M p K0 K r) (hl : 0 < K0.2.1.length) (T : vTy M) (Wt : wfT M t) (hk : ∀ K' z r', kTakeL p (btP M t) K = .inr (K', z) → uI h M p K0 K' r' → ms_Q (vF m h) R (k r') (k' K' z)) : ms_Q (vF m h) R ((fX16_takeParameters r 592 (mbt t)).bind fun w => pt_k w k) (sp_b (kTakeL p (btP M t) K) k') :=
  u_call (v_tP (uI_C C I) I.2.1 I.2.2.1 (uI_l I hl) T Wt) I (fun K' z e => by obtain ⟨w1, w2, w3⟩ := kTakeN_w I.2.2.1 e; exact ⟨w1, w2⟩) hk
theorem u_tR {k : pm_H → Option ((Nat × pm_H) ⊕ ρ)} {k' : tK → Nat → sp_O β} (C : vC h n b m eo el B M) (I : uI h M p K0 K r) (hl : 0 < K0.2.1.length) (T : vTy M) (Wt : wfT M t) (hk : ∀ K' z r', kTakeL p (btR M t) K = .inr (K', z) → uI h M p K0 K' r' → ms_Q (vF m h) R (k r') (k' K' z)) : ms_Q (vF m h) R ((fX16_takeResults r 592 (mbt t)).bind fun w => pt_k w k) (sp_b (kTakeL p (btR M t) K) k') :=
  u_call (v_tR (uI_C C I) I.2.1 I.2.2.1 (uI_l I hl) T Wt) I (fun K' z e => by obtain ⟨w1, w2, w3⟩ := kTakeN_w I.2.2.1 e; exact ⟨w1, w2⟩) hk
theorem kPutL_w {l : List Nat} {K' : tK} {z : Nat} (hl : ∀ x, x ∈ l → x = 0 ∨ isT x) (W : wfK M K) (e : kPutL p l K = .inr (K', z)) : wfK M K' ∧ K'.2 = K.2 ∧ K'.1.length = K.1.length + l.length := kPutN_w (fun i hi => hl _ (by rw [Nat.zero_add]; exact gt_m hi)) W e
theorem u_pP {k : pm_H → Option ((Nat × pm_H) ⊕ ρ)} {k' : tK → Nat → sp_O β} (C : vC h n b m eo el B M) (I : uI h M p K0 K r) (T : vTy M) (Wt : wfT M t) (hk : ∀ K' z r', kPutL p (btP M t) K = .inr (K', z) → uI h M p K0 K' r' → ms_Q (vF m h) R (k r') (k' K' z)) : ms_Q (vF m h) R ((fX16_putParameters r 592 (mbt t)).bind fun w => pt_k w k) (sp_b (kPutL p (btP M t) K) k') :=
  u_call (v_pP (uI_C C I) I.2.1 I.2.2.1 T Wt) I (fun K' z e => by obtain ⟨w1, w2, w3⟩ := kPutL_w (fun x hx => .inr ((bt_w T Wt).2.2.1 x hx)) I.2.2.1 e; exact ⟨w1, w2⟩) hk
theorem u_pR {k : pm_H → Option ((Nat × pm_H) ⊕ ρ)} {k' : tK → Nat → sp_O β} (C : vC h n b m eo el B M) (I : uI h M p K0 K r) (T : vTy M) (Wt : wfT M t) (hk : ∀ K' z r', kPutL p (btR M t) K = .inr (K', z) → uI h M p K0 K' r' → ms_Q (vF m h) R (k r') (k' K' z)) : ms_Q (vF m h) R ((fX16_putResults r 592 (mbt t)).bind fun w => pt_k w k) (sp_b (kPutL p (btR M t) K) k') :=
  u_call (v_pR (uI_C C I) I.2.1 I.2.2.1 T Wt) I (fun K' z e => by obtain ⟨w1, w2, w3⟩ := kPutL_w (fun x hx => .inr ((bt_w T Wt).2.2.2 x hx)) I.2.2.1 e; exact ⟨w1, w2⟩) hk
theorem u_W {x : Nat} {k : pm_H → Option ((Nat × pm_H) ⊕ ρ)} {k' : tK → Nat → sp_O β} (C : vC h n b m eo el B M) (I : uI h M p K0 K r) (T : vTy M) (hx : x < K.2.1.length) (hk : ∀ K' z r', kTakeL p (lbW M (K.2.1.getD x lb0)) K = .inr (K', z) → uI h M p K0 K' r' → ms_Q (vF m h) R (k r') (k' K' z)) : ms_Q (vF m h) R ((fX16_takeWanted r 592 (Int32.ofNat x)).bind fun w => pt_k w k) (sp_b (kTakeL p (lbW M (K.2.1.getD x lb0)) K) k') :=
  u_call (v_W (uI_C C I) I.2.1 I.2.2.1 T hx) I (fun K' z e => by obtain ⟨w1, w2, w3⟩ := kTakeN_w I.2.2.1 e; exact ⟨w1, w2⟩) hk
theorem u_stop {α : Type} {R : α → Nat → ρ → Prop} {k : pm_H → Option ((Nat × pm_H) ⊕ ρ)} {f : Nat} (C : vC h n b m eo el B M) (I : uI h M p K0 K r) {v : Int32} (hv : v = Int32.ofNat f) : ms_Q (vF m h) R ((fX16_stops r 592 v (pm_I r 592 31)).bind fun z => pt_k z k) (.inl (f, p)) := v_stop (uI_C C I).1 (uF_v I.1) hv I.2.1.2.2.1
theorem ux_r (I : uI h M p K0 K r) {op a b c hb : Int32} : ms_Q (vF m h) (vU h p) (some (.inr r)) (.inr (kEm K op a b c hb, 0)) := q_r ⟨I.1, vK_s (kEm_1 K op a b c hb).1 (kEm_1 K op a b c hb).2 I.2.1⟩
end URULE
