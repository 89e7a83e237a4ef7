/-! THE CLASS READS as the reference reads -/
def sl (M : tMd) (x : Option Nat) : tMd := (M.1, M.2.1, M.2.2.1, M.2.2.2.1, M.2.2.2.2.1, M.2.2.2.2.2.1, M.2.2.2.2.2.2.1, M.2.2.2.2.2.2.2.1, M.2.2.2.2.2.2.2.2.1, M.2.2.2.2.2.2.2.2.2.1, M.2.2.2.2.2.2.2.2.2.2.1, M.2.2.2.2.2.2.2.2.2.2.2.1, M.2.2.2.2.2.2.2.2.2.2.2.2.1, x)
/-- the class's and the reference's, but for the limit of more than 64 bodies -/
def Rl (last : Nat) (Mc M : tMd) : Prop := ∃ x, Mc = sl M x ∧ (x = M.2.2.2.2.2.2.2.2.2.2.2.2.2 ∨ (64 < M.2.2.2.2.2.2.2.2.2.1.length ∧ M.2.2.1.length ≤ 64)) ∧ (64 < M.2.2.1.length → M.2.2.2.2.2.2.2.2.2.2.2.2.2 ≠ none) ∧ (last < 11 → M.2.2.2.2.2.2.2.2.2.1 = [])
def relO (la : Nat) (o o' : sp_O tMd) : Prop := match o with
  | .inl w => o' = .inl w
  | .inr v => ∃ M, o' = .inr (M, v.2) ∧ Rl la v.1 M
theorem rel_b {σ : Type} {la : Nat} {o1 : sp_O σ} {mc mr : σ → tMd} {f : Nat → Nat} (H : ∀ l, Rl la (mc l) (mr l)) : relO la (sp_b o1 fun l p' => .inr (mc l, f p')) (sp_b o1 fun l p' => .inr (mr l, f p')) := by
  cases o1 with
  | inl w => rfl
  | inr v => exact ⟨mr v.1, rfl, H v.1⟩
theorem li_nn {o : Option Nat} {pl : Nat} {b : Bool} (h : o ≠ none) : liM o pl b = o := by
  unfold liM
  split
  · cases o with
    | none => exact absurd rfl h
    | some x => rfl
  · rfl
theorem li_bg {o : Option Nat} {pl : Nat} {b : Bool} (h : b = true) : liM o pl b ≠ none := by
  unfold liM
  rw [if_pos h]
  cases o <;> exact fun z => by cases z
section REL
variable {B : Nat → Nat} {e pl p l0 la : Nat} {d : Bool} {M Mc : tMd}
theorem eC {id : Nat} (h : id ≠ 10) : sp_secC B e d id pl M p = sp_sec B e d id pl M p := if_neg h
theorem eC_10 : sp_secC B e d 10 pl M p = sp_b (sp_boS B e d p) fun l p' => .inr ((M.1, M.2.1, M.2.2.1, M.2.2.2.1, M.2.2.2.2.1, M.2.2.2.2.2.1, M.2.2.2.2.2.2.1, M.2.2.2.2.2.2.2.1, M.2.2.2.2.2.2.2.2.1, l, M.2.2.2.2.2.2.2.2.2.2.1, M.2.2.2.2.2.2.2.2.2.2.2.1, M.2.2.2.2.2.2.2.2.2.2.2.2.1, liM M.2.2.2.2.2.2.2.2.2.2.2.2.2 pl (decide (64 < l.length) || l.any bigB)), p') := if_pos rfl
theorem eS_0 : sp_sec B e d 0 pl M p = sp_b (sp_name B e p) fun l p' => .inr ((fun _ => M) l, e) := by
  unfold sp_sec
  rw [if_pos (show (0 : Nat) = 0 from rfl)]
theorem eS_1 : sp_sec B e d 1 pl M p = sp_b (sp_tyS B e p) fun l p' => .inr ((fun l => (l, M.2.1, M.2.2.1, M.2.2.2.1, M.2.2.2.2.1, M.2.2.2.2.2.1, M.2.2.2.2.2.2.1, M.2.2.2.2.2.2.2.1, M.2.2.2.2.2.2.2.2.1, M.2.2.2.2.2.2.2.2.2.1, M.2.2.2.2.2.2.2.2.2.2.1, M.2.2.2.2.2.2.2.2.2.2.2.1, M.2.2.2.2.2.2.2.2.2.2.2.2.1, liM M.2.2.2.2.2.2.2.2.2.2.2.2.2 pl (decide (64 < l.length) || l.any bigT))) l, p') := by
  unfold sp_sec
  rw [if_neg (show ¬ 1 = 0 by decide), if_pos (show (1 : Nat) = 1 from rfl)]
theorem eS_2 : sp_sec B e d 2 pl M p = sp_b (sp_impS B e p) fun l p' => .inr ((fun l => (M.1, l, M.2.2.1, M.2.2.2.1, M.2.2.2.2.1, M.2.2.2.2.2.1, M.2.2.2.2.2.2.1, M.2.2.2.2.2.2.2.1, M.2.2.2.2.2.2.2.2.1, M.2.2.2.2.2.2.2.2.2.1, M.2.2.2.2.2.2.2.2.2.2.1, M.2.2.2.2.2.2.2.2.2.2.2.1, M.2.2.2.2.2.2.2.2.2.2.2.2.1, liM M.2.2.2.2.2.2.2.2.2.2.2.2.2 pl (decide (64 < l.length)))) l, p') := by
  unfold sp_sec
  rw [if_neg (show ¬ 2 = 0 by decide), if_neg (show ¬ 2 = 1 by decide), if_pos (show (2 : Nat) = 2 from rfl)]
theorem eS_3 : sp_sec B e d 3 pl M p = sp_b (sp_fnS B e p) fun l p' => .inr ((fun l => (M.1, M.2.1, l, M.2.2.2.1, M.2.2.2.2.1, M.2.2.2.2.2.1, M.2.2.2.2.2.2.1, M.2.2.2.2.2.2.2.1, M.2.2.2.2.2.2.2.2.1, M.2.2.2.2.2.2.2.2.2.1, M.2.2.2.2.2.2.2.2.2.2.1, M.2.2.2.2.2.2.2.2.2.2.2.1, M.2.2.2.2.2.2.2.2.2.2.2.2.1, liM M.2.2.2.2.2.2.2.2.2.2.2.2.2 pl (decide (64 < l.length)))) l, p') := by
  unfold sp_sec
  rw [if_neg (show ¬ 3 = 0 by decide), if_neg (show ¬ 3 = 1 by decide), if_neg (show ¬ 3 = 2 by decide), if_pos (show (3 : Nat) = 3 from rfl)]
theorem eS_4 : sp_sec B e d 4 pl M p = sp_b (sp_tbS B e p) fun l p' => .inr ((fun l => (M.1, M.2.1, M.2.2.1, l, M.2.2.2.2.1, M.2.2.2.2.2.1, M.2.2.2.2.2.2.1, M.2.2.2.2.2.2.2.1, M.2.2.2.2.2.2.2.2.1, M.2.2.2.2.2.2.2.2.2.1, M.2.2.2.2.2.2.2.2.2.2.1, M.2.2.2.2.2.2.2.2.2.2.2.1, M.2.2.2.2.2.2.2.2.2.2.2.2.1, liM M.2.2.2.2.2.2.2.2.2.2.2.2.2 pl (decide (64 < l.length)))) l, p') := by
  unfold sp_sec
  rw [if_neg (show ¬ 4 = 0 by decide), if_neg (show ¬ 4 = 1 by decide), if_neg (show ¬ 4 = 2 by decide), if_neg (show ¬ 4 = 3 by decide), if_pos (show (4 : Nat) = 4 from rfl)]
theorem eS_5 : sp_sec B e d 5 pl M p = sp_b (sp_mmS B e p) fun l p' => .inr ((fun l => (M.1, M.2.1, M.2.2.1, M.2.2.2.1, l, M.2.2.2.2.2.1, M.2.2.2.2.2.2.1, M.2.2.2.2.2.2.2.1, M.2.2.2.2.2.2.2.2.1, M.2.2.2.2.2.2.2.2.2.1, M.2.2.2.2.2.2.2.2.2.2.1, M.2.2.2.2.2.2.2.2.2.2.2.1, M.2.2.2.2.2.2.2.2.2.2.2.2.1, liM M.2.2.2.2.2.2.2.2.2.2.2.2.2 pl (decide (64 < l.length)))) l, p') := by
  unfold sp_sec
  rw [if_neg (show ¬ 5 = 0 by decide), if_neg (show ¬ 5 = 1 by decide), if_neg (show ¬ 5 = 2 by decide), if_neg (show ¬ 5 = 3 by decide), if_neg (show ¬ 5 = 4 by decide), if_pos (show (5 : Nat) = 5 from rfl)]
theorem eS_6 : sp_sec B e d 6 pl M p = sp_b (sp_glS B e d p) fun l p' => .inr ((fun l => (M.1, M.2.1, M.2.2.1, M.2.2.2.1, M.2.2.2.2.1, l, M.2.2.2.2.2.2.1, M.2.2.2.2.2.2.2.1, M.2.2.2.2.2.2.2.2.1, M.2.2.2.2.2.2.2.2.2.1, M.2.2.2.2.2.2.2.2.2.2.1, M.2.2.2.2.2.2.2.2.2.2.2.1, M.2.2.2.2.2.2.2.2.2.2.2.2.1, liM M.2.2.2.2.2.2.2.2.2.2.2.2.2 pl (decide (64 < l.length)))) l, p') := by
  unfold sp_sec
  rw [if_neg (show ¬ 6 = 0 by decide), if_neg (show ¬ 6 = 1 by decide), if_neg (show ¬ 6 = 2 by decide), if_neg (show ¬ 6 = 3 by decide), if_neg (show ¬ 6 = 4 by decide), if_neg (show ¬ 6 = 5 by decide), if_pos (show (6 : Nat) = 6 from rfl)]
theorem eS_7 : sp_sec B e d 7 pl M p = sp_b (sp_xpS B e p) fun l p' => .inr ((fun l => (M.1, M.2.1, M.2.2.1, M.2.2.2.1, M.2.2.2.2.1, M.2.2.2.2.2.1, l, M.2.2.2.2.2.2.2.1, M.2.2.2.2.2.2.2.2.1, M.2.2.2.2.2.2.2.2.2.1, M.2.2.2.2.2.2.2.2.2.2.1, M.2.2.2.2.2.2.2.2.2.2.2.1, M.2.2.2.2.2.2.2.2.2.2.2.2.1, liM M.2.2.2.2.2.2.2.2.2.2.2.2.2 pl (decide (64 < l.length)))) l, p') := by
  unfold sp_sec
  rw [if_neg (show ¬ 7 = 0 by decide), if_neg (show ¬ 7 = 1 by decide), if_neg (show ¬ 7 = 2 by decide), if_neg (show ¬ 7 = 3 by decide), if_neg (show ¬ 7 = 4 by decide), if_neg (show ¬ 7 = 5 by decide), if_neg (show ¬ 7 = 6 by decide), if_pos (show (7 : Nat) = 7 from rfl)]
theorem eS_8 : sp_sec B e d 8 pl M p = sp_b (sp_num B e p) fun l p' => .inr ((fun x => (M.1, M.2.1, M.2.2.1, M.2.2.2.1, M.2.2.2.2.1, M.2.2.2.2.2.1, M.2.2.2.2.2.2.1, M.2.2.2.2.2.2.2.1, M.2.2.2.2.2.2.2.2.1, M.2.2.2.2.2.2.2.2.2.1, some x, M.2.2.2.2.2.2.2.2.2.2.2.1, M.2.2.2.2.2.2.2.2.2.2.2.2.1, M.2.2.2.2.2.2.2.2.2.2.2.2.2)) l, p') := by
  unfold sp_sec
  rw [if_neg (show ¬ 8 = 0 by decide), if_neg (show ¬ 8 = 1 by decide), if_neg (show ¬ 8 = 2 by decide), if_neg (show ¬ 8 = 3 by decide), if_neg (show ¬ 8 = 4 by decide), if_neg (show ¬ 8 = 5 by decide), if_neg (show ¬ 8 = 6 by decide), if_neg (show ¬ 8 = 7 by decide), if_pos (show (8 : Nat) = 8 from rfl)]
theorem eS_9 : sp_sec B e d 9 pl M p = sp_b (sp_elS B e d p) fun l p' => .inr ((fun l => (M.1, M.2.1, M.2.2.1, M.2.2.2.1, M.2.2.2.2.1, M.2.2.2.2.2.1, M.2.2.2.2.2.2.1, l, M.2.2.2.2.2.2.2.2.1, M.2.2.2.2.2.2.2.2.2.1, M.2.2.2.2.2.2.2.2.2.2.1, M.2.2.2.2.2.2.2.2.2.2.2.1, M.2.2.2.2.2.2.2.2.2.2.2.2.1, liM M.2.2.2.2.2.2.2.2.2.2.2.2.2 pl (decide (64 < l.length)))) l, p') := by
  unfold sp_sec
  rw [if_neg (show ¬ 9 = 0 by decide), if_neg (show ¬ 9 = 1 by decide), if_neg (show ¬ 9 = 2 by decide), if_neg (show ¬ 9 = 3 by decide), if_neg (show ¬ 9 = 4 by decide), if_neg (show ¬ 9 = 5 by decide), if_neg (show ¬ 9 = 6 by decide), if_neg (show ¬ 9 = 7 by decide), if_neg (show ¬ 9 = 8 by decide), if_pos (show (9 : Nat) = 9 from rfl)]
theorem eS_10 : sp_sec B e d 10 pl M p = sp_b (sp_boS B e d p) fun l p' => .inr ((fun l => (M.1, M.2.1, M.2.2.1, M.2.2.2.1, M.2.2.2.2.1, M.2.2.2.2.2.1, M.2.2.2.2.2.2.1, M.2.2.2.2.2.2.2.1, M.2.2.2.2.2.2.2.2.1, l, M.2.2.2.2.2.2.2.2.2.2.1, M.2.2.2.2.2.2.2.2.2.2.2.1, M.2.2.2.2.2.2.2.2.2.2.2.2.1, liM M.2.2.2.2.2.2.2.2.2.2.2.2.2 pl (l.any bigB))) l, p') := by
  unfold sp_sec
  rw [if_neg (show ¬ 10 = 0 by decide), if_neg (show ¬ 10 = 1 by decide), if_neg (show ¬ 10 = 2 by decide), if_neg (show ¬ 10 = 3 by decide), if_neg (show ¬ 10 = 4 by decide), if_neg (show ¬ 10 = 5 by decide), if_neg (show ¬ 10 = 6 by decide), if_neg (show ¬ 10 = 7 by decide), if_neg (show ¬ 10 = 8 by decide), if_neg (show ¬ 10 = 9 by decide), if_pos (show (10 : Nat) = 10 from rfl)]
theorem eS_11 : sp_sec B e d 11 pl M p = sp_b (sp_daS B e d p) fun l p' => .inr ((fun l => (M.1, M.2.1, M.2.2.1, M.2.2.2.1, M.2.2.2.2.1, M.2.2.2.2.2.1, M.2.2.2.2.2.2.1, M.2.2.2.2.2.2.2.1, l, M.2.2.2.2.2.2.2.2.2.1, M.2.2.2.2.2.2.2.2.2.2.1, M.2.2.2.2.2.2.2.2.2.2.2.1, M.2.2.2.2.2.2.2.2.2.2.2.2.1, liM M.2.2.2.2.2.2.2.2.2.2.2.2.2 pl (decide (64 < l.length)))) l, p') := by
  unfold sp_sec
  rw [if_neg (show ¬ 11 = 0 by decide), if_neg (show ¬ 11 = 1 by decide), if_neg (show ¬ 11 = 2 by decide), if_neg (show ¬ 11 = 3 by decide), if_neg (show ¬ 11 = 4 by decide), if_neg (show ¬ 11 = 5 by decide), if_neg (show ¬ 11 = 6 by decide), if_neg (show ¬ 11 = 7 by decide), if_neg (show ¬ 11 = 8 by decide), if_neg (show ¬ 11 = 9 by decide), if_neg (show ¬ 11 = 10 by decide), if_pos (show (11 : Nat) = 11 from rfl)]
theorem eS_12 : sp_sec B e d 12 pl M p = sp_b (sp_num B e p) fun l p' => .inr ((fun x => (M.1, M.2.1, M.2.2.1, M.2.2.2.1, M.2.2.2.2.1, M.2.2.2.2.2.1, M.2.2.2.2.2.2.1, M.2.2.2.2.2.2.2.1, M.2.2.2.2.2.2.2.2.1, M.2.2.2.2.2.2.2.2.2.1, M.2.2.2.2.2.2.2.2.2.2.1, some x, M.2.2.2.2.2.2.2.2.2.2.2.2.1, M.2.2.2.2.2.2.2.2.2.2.2.2.2)) l, p') := by
  unfold sp_sec
  rw [if_neg (show ¬ 12 = 0 by decide), if_neg (show ¬ 12 = 1 by decide), if_neg (show ¬ 12 = 2 by decide), if_neg (show ¬ 12 = 3 by decide), if_neg (show ¬ 12 = 4 by decide), if_neg (show ¬ 12 = 5 by decide), if_neg (show ¬ 12 = 6 by decide), if_neg (show ¬ 12 = 7 by decide), if_neg (show ¬ 12 = 8 by decide), if_neg (show ¬ 12 = 9 by decide), if_neg (show ¬ 12 = 10 by decide), if_neg (show ¬ 12 = 11 by decide)]
theorem sec_rel {d2 : Bool} {id : Nat} (hid : id < 13) (R : Rl l0 Mc M) (hl : id = 0 ∨ l0 < rk id) (hla : la = if id = 0 then l0 else rk id) (hd : id ≠ 12 → d2 = d) : relO la (sp_secC B e d2 id pl Mc p) (sp_sec B e d id pl M p) := by
  obtain ⟨x, rfl, r1, r2, r3⟩ := R
  by_cases c0 : id = 0
  · subst c0
    have hla : la = l0 := hla
    obtain rfl := hd (by decide)
    rw [eC (by decide), eS_0, eS_0]
    refine rel_b (f := fun _ => e) (fun l => ?_)
    exact ⟨x, rfl, r1, r2, fun z => r3 (by omega)⟩
  by_cases c1 : id = 1
  · subst c1
    have hla : la = 1 := hla
    have hr : l0 < 1 := by { rcases hl with z | z; { exact absurd z (by decide) }; { exact z } }
    obtain rfl := hd (by decide)
    rw [eC (by decide), eS_1, eS_1]
    refine rel_b (f := fun p => p) (fun l => ?_)
    exact ⟨_, rfl, r1.imp (fun z => by { rw [z]; rfl }) (fun z => z), fun z => by { show liM _ _ _ ≠ none; rw [li_nn (r2 z)]; exact r2 z }, fun z => r3 (by omega)⟩
  by_cases c2 : id = 2
  · subst c2
    have hla : la = 2 := hla
    have hr : l0 < 2 := by { rcases hl with z | z; { exact absurd z (by decide) }; { exact z } }
    obtain rfl := hd (by decide)
    rw [eC (by decide), eS_2, eS_2]
    refine rel_b (f := fun p => p) (fun l => ?_)
    exact ⟨_, rfl, r1.imp (fun z => by { rw [z]; rfl }) (fun z => z), fun z => by { show liM _ _ _ ≠ none; rw [li_nn (r2 z)]; exact r2 z }, fun z => r3 (by omega)⟩
  by_cases c3 : id = 3
  · subst c3
    have hla : la = 3 := hla
    have hr : l0 < 3 := by { rcases hl with z | z; { exact absurd z (by decide) }; { exact z } }
    obtain rfl := hd (by decide)
    rw [eC (by decide), eS_3, eS_3]
    refine rel_b (f := fun p => p) (fun l => ?_)
    have b0 := r3 (by omega)
    have ex : x = M.2.2.2.2.2.2.2.2.2.2.2.2.2 := by { rcases r1 with z | z; { exact z }; { rw [b0] at z; exact absurd z.1 (by decide) } }
    exact ⟨_, rfl, .inl (by rw [ex]; rfl), fun z => li_bg (decide_eq_true z), fun _ => b0⟩
  by_cases c4 : id = 4
  · subst c4
    have hla : la = 4 := hla
    have hr : l0 < 4 := by { rcases hl with z | z; { exact absurd z (by decide) }; { exact z } }
    obtain rfl := hd (by decide)
    rw [eC (by decide), eS_4, eS_4]
    refine rel_b (f := fun p => p) (fun l => ?_)
    exact ⟨_, rfl, r1.imp (fun z => by { rw [z]; rfl }) (fun z => z), fun z => by { show liM _ _ _ ≠ none; rw [li_nn (r2 z)]; exact r2 z }, fun z => r3 (by omega)⟩
  by_cases c5 : id = 5
  · subst c5
    have hla : la = 5 := hla
    have hr : l0 < 5 := by { rcases hl with z | z; { exact absurd z (by decide) }; { exact z } }
    obtain rfl := hd (by decide)
    rw [eC (by decide), eS_5, eS_5]
    refine rel_b (f := fun p => p) (fun l => ?_)
    exact ⟨_, rfl, r1.imp (fun z => by { rw [z]; rfl }) (fun z => z), fun z => by { show liM _ _ _ ≠ none; rw [li_nn (r2 z)]; exact r2 z }, fun z => r3 (by omega)⟩
  by_cases c6 : id = 6
  · subst c6
    have hla : la = 6 := hla
    have hr : l0 < 6 := by { rcases hl with z | z; { exact absurd z (by decide) }; { exact z } }
    obtain rfl := hd (by decide)
    rw [eC (by decide), eS_6, eS_6]
    refine rel_b (f := fun p => p) (fun l => ?_)
    exact ⟨_, rfl, r1.imp (fun z => by { rw [z]; rfl }) (fun z => z), fun z => by { show liM _ _ _ ≠ none; rw [li_nn (r2 z)]; exact r2 z }, fun z => r3 (by omega)⟩
  by_cases c7 : id = 7
  · subst c7
    have hla : la = 7 := hla
    have hr : l0 < 7 := by { rcases hl with z | z; { exact absurd z (by decide) }; { exact z } }
    obtain rfl := hd (by decide)
    rw [eC (by decide), eS_7, eS_7]
    refine rel_b (f := fun p => p) (fun l => ?_)
    exact ⟨_, rfl, r1.imp (fun z => by { rw [z]; rfl }) (fun z => z), fun z => by { show liM _ _ _ ≠ none; rw [li_nn (r2 z)]; exact r2 z }, fun z => r3 (by omega)⟩
  by_cases c8 : id = 8
  · subst c8
    have hla : la = 8 := hla
    have hr : l0 < 8 := by { rcases hl with z | z; { exact absurd z (by decide) }; { exact z } }
    obtain rfl := hd (by decide)
    rw [eC (by decide), eS_8, eS_8]
    refine rel_b (f := fun p => p) (fun l => ?_)
    exact ⟨x, rfl, r1, r2, fun z => r3 (by omega)⟩
  by_cases c9 : id = 9
  · subst c9
    have hla : la = 9 := hla
    have hr : l0 < 9 := by { rcases hl with z | z; { exact absurd z (by decide) }; { exact z } }
    obtain rfl := hd (by decide)
    rw [eC (by decide), eS_9, eS_9]
    refine rel_b (f := fun p => p) (fun l => ?_)
    exact ⟨_, rfl, r1.imp (fun z => by { rw [z]; rfl }) (fun z => z), fun z => by { show liM _ _ _ ≠ none; rw [li_nn (r2 z)]; exact r2 z }, fun z => r3 (by omega)⟩
  by_cases c10 : id = 10
  · subst c10
    have hla : la = 11 := hla
    have hr : l0 < 11 := by { rcases hl with z | z; { exact absurd z (by decide) }; { exact z } }
    obtain rfl := hd (by decide)
    rw [eC_10, eS_10]
    refine rel_b (f := fun p => p) (fun l => ?_)
    have b0 := r3 (by omega)
    have ex : x = M.2.2.2.2.2.2.2.2.2.2.2.2.2 := by { rcases r1 with z | z; { exact z }; { rw [b0] at z; exact absurd z.1 (by decide) } }
    refine ⟨_, rfl, ?_, fun z => by { show liM _ _ _ ≠ none; rw [li_nn (r2 z)]; exact r2 z }, fun z => by omega⟩
    by_cases c : 64 < l.length
    · by_cases f : 64 < M.2.2.1.length
      · left
        show liM x pl _ = liM M.2.2.2.2.2.2.2.2.2.2.2.2.2 pl _
        rw [ex, li_nn (r2 f), li_nn (r2 f)]
      · exact .inr ⟨c, by show M.2.2.1.length ≤ 64; omega⟩
    · left
      show liM x pl (decide (64 < l.length) || _) = liM M.2.2.2.2.2.2.2.2.2.2.2.2.2 pl _
      rw [ex, decide_eq_false c, Bool.false_or]
  by_cases c11 : id = 11
  · subst c11
    have hla : la = 12 := hla
    have hr : l0 < 12 := by { rcases hl with z | z; { exact absurd z (by decide) }; { exact z } }
    obtain rfl := hd (by decide)
    rw [eC (by decide), eS_11, eS_11]
    refine rel_b (f := fun p => p) (fun l => ?_)
    exact ⟨_, rfl, r1.imp (fun z => by { rw [z]; rfl }) (fun z => z), fun z => by { show liM _ _ _ ≠ none; rw [li_nn (r2 z)]; exact r2 z }, fun z => r3 (by omega)⟩
  by_cases c12 : id = 12
  · subst c12
    have hla : la = 10 := hla
    have hr : l0 < 10 := by { rcases hl with z | z; { exact absurd z (by decide) }; { exact z } }
    rw [eC (by decide), eS_12, eS_12]
    refine rel_b (f := fun p => p) (fun l => ?_)
    exact ⟨x, rfl, r1, r2, fun z => r3 (by omega)⟩
  omega
/-- how many there are -/
def finT (n : Nat) (M : tMd) (p : Nat) : sp_O tMd := if M.2.2.1.length = M.2.2.2.2.2.2.2.2.2.1.length then (if M.2.2.2.2.2.2.2.2.2.2.2.1 = none ∨ M.2.2.2.2.2.2.2.2.2.2.2.1 = some M.2.2.2.2.2.2.2.2.1.length then .inr (M, p) else .inl (14, n)) else .inl (13, n)
theorem secs_hd (n N last : Nat) : sp_secs B n (N + 1) last M p = if n ≤ p then finT n M p else sp_b (sp_hd B n last p) fun v p2 => sp_b (sp_sec B (p2 + v.2) (isS (if v.1 = 0 then M.2.2.2.2.2.2.2.2.2.2.2.2.1 12 else if v.1 = 12 then some p else M.2.2.2.2.2.2.2.2.2.2.2.2.1 12)) v.1 p (sec1 M v.1 p) p2) fun M2 p3 => if p3 < p2 + v.2 then .inl (3, p3) else sp_secs B n N (if v.1 = 0 then last else rk v.1) M2 p3 := by
  conv => lhs; unfold sp_secs
  unfold finT sp_hd
  by_cases c : n ≤ p
  · rw [if_pos c, if_pos c]
  · rw [if_neg c, if_neg c, sp_bb]
    cases sp_next B n p with
    | inl w => rfl
    | inr v =>
      obtain ⟨id, p1⟩ := v
      rw [sp_br, sp_br]
      by_cases c1 : 12 < id ∨ (0 < id ∧ rk id ≤ last)
      · rw [if_pos c1, if_pos c1]; rfl
      · rw [if_neg c1, if_neg c1, sp_bb]
        cases sp_num B n p1 with
        | inl w => rfl
        | inr v =>
          obtain ⟨sz, p2⟩ := v
          rw [sp_br, sp_br]
          by_cases c2 : n < p2 + sz
          · rw [if_pos c2, if_pos c2]; rfl
          · rw [if_neg c2, if_neg c2]; rfl
theorem hd_v {n last : Nat} {v : Nat × Nat} {p2 : Nat} (q : sp_hd B n last p = .inr (v, p2)) (hB : ∀ i, B i < 256) : v.1 < 13 ∧ (v.1 = 0 ∨ last < rk v.1) := by
  unfold sp_hd at q
  obtain ⟨id, p1, e1, e2⟩ := b_inv q
  split at e2
  · cases e2
  · next c =>
    obtain ⟨sz, p3, e3, e4⟩ := b_inv e2
    split at e4
    · cases e4
    · cases e4
      show id < 13 ∧ (id = 0 ∨ last < rk id)
      omega
def relT (n : Nat) (o o' : sp_O tMd) : Prop := match o with
  | .inl w => o' = .inl w
  | .inr v => ∃ M' la, Rl la v.1 M' ∧ o' = finT n M' v.2
theorem relT_l {n : Nat} {w : Nat × Nat} {o' : sp_O tMd} (h : o' = .inl w) : relT n (.inl w) o' := h
theorem relO_l {w : Nat × Nat} {o' : sp_O tMd} (h : relO la (.inl w) o') : o' = .inl w := h
theorem relO_r {v : tMd} {p : Nat} {o' : sp_O tMd} (h : relO la (.inr (v, p)) o') : ∃ M, o' = .inr (M, p) ∧ Rl la v M := h
/-- a section, then the rest -/
theorem rel_s {n la : Nat} {oc oo : sp_O tMd} {E : Nat} {kc kr : tMd → Nat → sp_O tMd} (RR : relO la oc oo) (K : ∀ M2 M3 p3, Rl la M2 M3 → relT n (kc M2 p3) (kr M3 p3)) : relT n (sp_b (sp_b oc fun M2 p3 => if p3 < E then .inl (3, p3) else .inr (M2, p3)) kc) (sp_b oo fun M2 p3 => if p3 < E then .inl (3, p3) else kr M2 p3) := by
  cases oc with
  | inl w =>
    rw [relO_l RR, sp_bl, sp_bl, sp_bl]
    exact relT_l rfl
  | inr v =>
    obtain ⟨M2, p3⟩ := v
    obtain ⟨M3, e3, R3⟩ := relO_r RR
    rw [e3, sp_br, sp_br]
    by_cases c3 : p3 < E
    · rw [if_pos c3, if_pos c3, sp_bl]
      exact relT_l rfl
    · rw [if_neg c3, if_neg c3, sp_br]
      exact K M2 M3 p3 R3
theorem rel_h {n : Nat} {oh : sp_O (Nat × Nat)} {kc kr : Nat × Nat → Nat → sp_O tMd} (K : ∀ v p2, oh = .inr (v, p2) → relT n (kc v p2) (kr v p2)) : relT n (sp_b oh kc) (sp_b oh kr) := by
  cases oh with
  | inl w => rw [sp_bl, sp_bl]; exact relT_l rfl
  | inr v => exact K v.1 v.2 rfl
theorem secs_0 (n last p : Nat) : sp_secs B n 0 last M p = .inl (0, 0) := rfl
theorem secsC_0 (n last p : Nat) : sp_secsC B n 0 last M p = .inl (0, 0) := rfl
theorem secsC_s (n N last p : Nat) : sp_secsC B n (N + 1) last M p = if n ≤ p then .inr (M, p) else sp_b (sp_hd B n last p) fun v p2 => sp_b (sp_b (sp_secC B (p2 + v.2) (isS (M.2.2.2.2.2.2.2.2.2.2.2.2.1 12)) v.1 p (sec1 M v.1 p) p2) fun M2 p3 => if p3 < p2 + v.2 then .inl (3, p3) else .inr (M2, p3)) fun M2 p3 => sp_secsC B n N (if v.1 = 0 then last else rk v.1) M2 p3 := rfl
theorem sl_sec1 (x : Option Nat) (id p : Nat) : sec1 (sl M x) id p = sl (sec1 M id p) x := by
  obtain ⟨a1, a2, a3, a4, a5, a6, a7, a8, a9, a10, a11, a12, a13, a14⟩ := M
  have e1 : sl (a1, a2, a3, a4, a5, a6, a7, a8, a9, a10, a11, a12, a13, a14) x = ((a1, a2, a3, a4, a5, a6, a7, a8, a9, a10, a11, a12, a13, x) : tMd) := rfl
  have e2 : sec1 (a1, a2, a3, a4, a5, a6, a7, a8, a9, a10, a11, a12, a13, a14) id p = ((a1, a2, a3, a4, a5, a6, a7, a8, a9, a10, a11, a12, (fun i => if id ≠ 0 ∧ i = id then some p else a13 i), a14) : tMd) := rfl
  rw [e1, e2]
  have e3 : sec1 (a1, a2, a3, a4, a5, a6, a7, a8, a9, a10, a11, a12, a13, x) id p = ((a1, a2, a3, a4, a5, a6, a7, a8, a9, a10, a11, a12, (fun i => if id ≠ 0 ∧ i = id then some p else a13 i), x) : tMd) := rfl
  have e4 : sl (a1, a2, a3, a4, a5, a6, a7, a8, a9, a10, a11, a12, (fun i => if id ≠ 0 ∧ i = id then some p else a13 i), a14) x = ((a1, a2, a3, a4, a5, a6, a7, a8, a9, a10, a11, a12, (fun i => if id ≠ 0 ∧ i = id then some p else a13 i), x) : tMd) := rfl
  exact e3.trans e4.symm
theorem sl_scs (x : Option Nat) : (sl M x).2.2.2.2.2.2.2.2.2.2.2.2.1 = M.2.2.2.2.2.2.2.2.2.2.2.2.1 := by
  obtain ⟨a1, a2, a3, a4, a5, a6, a7, a8, a9, a10, a11, a12, a13, a14⟩ := M
  rfl
theorem Rl_1 {last id p : Nat} (R : Rl last Mc M) : Rl last (sec1 Mc id p) (sec1 M id p) := by
  obtain ⟨x, e, r⟩ := R
  refine ⟨x, ?_, ?_⟩
  · rw [e, sl_sec1]
  · exact r
theorem Rl_s {last : Nat} (R : Rl last Mc M) : Mc.2.2.2.2.2.2.2.2.2.2.2.2.1 = M.2.2.2.2.2.2.2.2.2.2.2.2.1 := by
  obtain ⟨x, e, -⟩ := R
  rw [e, sl_scs]
theorem secs_rel (hB : ∀ i, B i < 256) {n : Nat} : ∀ (N last p : Nat) (Mc M : tMd), Rl last Mc M → relT n (sp_secsC B n N last Mc p) (sp_secs B n N last M p) := by
  intro N
  induction N with
  | zero => intro last p Mc M R; rw [secs_0, secsC_0]; exact relT_l rfl
  | succ N ih =>
    intro last p Mc M R
    rw [secs_hd, secsC_s]
    by_cases c : n ≤ p
    · rw [if_pos c, if_pos c]
      exact ⟨M, last, R, rfl⟩
    · rw [if_neg c, if_neg c]
      refine rel_h fun v p2 hh => ?_
      obtain ⟨v1, v2⟩ := hd_v hh hB
      exact rel_s (sec_rel v1 (Rl_1 R) v2 rfl (fun h12 => by rw [Rl_s R, if_neg h12, ite_self])) (fun M2 M3 p3 R3 => ih _ p3 M2 M3 R3)
end REL
