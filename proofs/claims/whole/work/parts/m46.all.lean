/-! THE CLASS CHECKS: body after body -/
/-- what stays below the bodies -/
def bFr (r r' : pm_H) (cs : Nat) : Prop := (∀ x, x ≤ cs → pm_kd r' x = pm_kd r x ∧ pm_ln r' x = pm_ln r x) ∧ (∀ x, x ≤ cs → ¬ xZ x → pe_E r r' x) ∧ (∀ x, x ≤ cs → x ≠ 22 → ∀ y, pm_R r' x y = pm_R r x y) ∧ (∀ y, y ≠ 17 → pm_R r' 22 y = pm_R r 22 y) ∧ ∀ x, x ≤ cs → x ≠ 19 → ∀ y, pm_L r' x y = pm_L r x y
theorem bFr_r (r : pm_H) (cs : Nat) : bFr r r cs := ⟨fun _ _ => ⟨rfl, rfl⟩, fun x _ _ => pe_E_r r x, fun _ _ _ _ => rfl, fun _ _ => rfl, fun _ _ _ _ => rfl⟩
theorem bFr_t {r1 r2 r3 : pm_H} {cs : Nat} (p : bFr r1 r2 cs) (q : bFr r2 r3 cs) : bFr r1 r3 cs := ⟨fun x h => ⟨(q.1 x h).1.trans (p.1 x h).1, (q.1 x h).2.trans (p.1 x h).2⟩, fun x h z => pe_E_t (p.2.1 x h z) (q.2.1 x h z), fun x h z y => (q.2.2.1 x h z y).trans (p.2.2.1 x h z y), fun y h => (q.2.2.2.1 y h).trans (p.2.2.2.1 y h), fun x h z y => (q.2.2.2.2 x h z y).trans (p.2.2.2.2 x h z y)⟩
theorem bFr_z {r r' : pm_H} {cs c : Nat} (hc : cs < c) (hs : cs < pm_sz r) (h22 : 22 < cs) (q : zE r r' c) : bFr r r' cs := ⟨fun x h => q.1 x (by omega), fun x h z => q.2.1 x (by omega) z (by omega) (by omega), fun x h z y => q.2.2.1 x (by omega) z (by omega) y, q.2.2.2.1, fun x h z y => q.2.2.2.2.2.1 x (by omega) z y⟩
/-- module(): the label before the next body, the label behind all -/
noncomputable abbrev s150 (mm i : Nat) (H : pm_H) : Option (Int32 × pm_H) := pm_lim sX12_module (.inr (.inr (.inr (.inr (.inr (.inr (.inr (.inr (.inl (0, mm, Int32.ofNat i, H))))))))))
noncomputable abbrev s183 (mm : Nat) (H : pm_H) : Option (Int32 × pm_H) := pm_lim sX12_module (.inr (.inr (.inr (.inr (.inr (.inr (.inr (.inr (.inr (.inl (0, mm, H)))))))))))
section XALL
variable {r r' r0 : pm_H} {n b mm lo hi cs dd : Nat} {B : Nat → Nat} {M : tMd} {D : Bool} {Dc : Nat → Bool}
/-- the bodies before i are checked, the others are as they were made -/
def bLp (r : pm_H) (lo hi cs : Nat) (M : tMd) (i : Nat) (vs : List (Nat × tK)) : Prop := pm_sz r = cs + 1 + 5 * M.2.2.2.2.2.2.2.2.2.1.length + i ∧ vs.length = i ∧ (∀ j, j < M.2.2.2.2.2.2.2.2.2.1.length → pm_R r cs j = some (cs + 1 + 5 * j)) ∧ (∀ j v, vs[j]? = some v → bDn r lo hi M (cs + 1 + 5 * j) (cs + 1 + 5 * M.2.2.2.2.2.2.2.2.2.1.length + j) j v) ∧ ∀ j, i ≤ j → j < M.2.2.2.2.2.2.2.2.2.1.length → bFa r lo hi M (cs + 1 + 5 * j) j
theorem x_bdL (g : vG B n D M) (hF : ∀ f, f ∈ spF M → f.2.1 < M.1.length) (hE : M.2.2.1.length = M.2.2.2.2.2.2.2.2.2.1.length) (k81 : M.2.2.2.2.2.2.2.2.2.1.length ≤ 81920) : ∀ (m i : Nat) (vs : List (Nat × tK)) {r : pm_H}, i + m = M.2.2.2.2.2.2.2.2.2.1.length → bCx r n b mm lo hi cs dd B M D Dc → (pm_kd r 0 = 12 ∧ pm_R r 0 9 = some 22) → pm_I r 22 0 = 0 → bLp r lo hi cs M i vs → ∃ r', s150 mm i r = s183 mm r' ∧ bFr r r' cs ∧ (cs < pm_sz r' ∧ pm_sz r' ≤ cs + 1 + 6 * M.2.2.2.2.2.2.2.2.2.1.length) ∧ match sp_bds B n D M Dc (M.2.2.1.drop i) (M.2.2.2.2.2.2.2.2.2.1.drop i) with
    | .inl w => (0 < w.1 ∧ w.1 < 100) ∧ pm_I r' 22 0 = Int32.ofNat w.1 ∧ pm_I r' 22 1 = Int32.ofNat w.2
    | .inr ws => pm_I r' 22 0 = 0 ∧ bCx r' n b mm lo hi cs dd B M D Dc ∧ bLp r' lo hi cs M M.2.2.2.2.2.2.2.2.2.1.length (vs ++ ws.1) := by
  intro m
  induction m with
  | zero =>
    intro i vs r hi' X e0 i0 P
    obtain ⟨sz, vl, Rc, dn, fr⟩ := id P
    have e : i = M.2.2.2.2.2.2.2.2.2.1.length := by omega
    obtain ⟨X1, -, -, -, -, -, ⟨c1, c2, c3⟩, -⟩ := id X
    refine ⟨r, k_w (aX12_module_8 ..) ?_, bFr_r r cs, by omega, ?_⟩
    · unfold tX12_module_150
      exact k_t X1.1.2.2.1 (k_b c1 (k_t c2 (k_t (by rw [c3, nn_le (by omega) (by omega)]; omega) rfl)))
    · rw [List.drop_eq_nil_of_le (by omega), show ∀ l, sp_bds B n D M Dc [] l = .inr ([], 0) from fun l => by cases l <;> rfl]
      refine ⟨i0, X, ?_⟩
      rw [List.append_nil, ← e]; exact P
  | succ m ih =>
    intro i vs r hi' X e0 i0 P
    obtain ⟨sz, vl, Rc, dn, fr⟩ := id P
    obtain ⟨X1, ⟨d1, d2, d3⟩, ⟨o1, o2, o3⟩, -, -, -, ⟨c1, c2, c3⟩, l181⟩ := id X
    have aa := X1.2.2.2
    have il : i < M.2.2.2.2.2.2.2.2.2.1.length := by omega
    have tl : i < M.2.2.1.length := by omega
    have ha : M.2.2.2.2.2.2.2.2.2.1[i]? = some M.2.2.2.2.2.2.2.2.2.1[i] := List.getElem?_eq_getElem il
    have ht : M.2.2.1[i]? = some M.2.2.1[i] := List.getElem?_eq_getElem tl
    obtain ⟨r1, e1, z1, F1, H1⟩ := x_bd1 X g hF ha ht (c := cs + 1 + 5 * i) (by omega) (by omega) (Rc i il) (fr i (Nat.le_refl _) il) i0
    have FB := bFr_z (cs := cs) (by omega) o3 (by omega) F1
    have X2 := bCx_E X (by omega) (by omega) F1
    have step : s150 mm i r = s150 mm (i + 1) r1 := by
      refine k_w (aX12_module_8 ..) ?_
      unfold tX12_module_150
      refine k_t X1.1.2.2.1 (k_b c1 (k_t c2 (k_f (by rw [c3, nn_le (by omega) (by omega)]; omega) (k_t e0.1 (k_b e0.2 (k_t X1.2.2.1.1 (k_t i0 (k_b e1 (k_n (k_w (aX12_module_10 ..) ?_))))))))))
      unfold tX12_module_177
      refine k_l ?_
      rw [show Int32.ofNat i + 1 = Int32.ofNat (i + 1) from nn_ad i 1]
      rfl
    have e01 := FB.2.1 0 (Nat.zero_le _) (by unfold xZ; omega)
    have E0 : pm_kd r1 0 = 12 ∧ pm_R r1 0 9 = some 22 := ⟨e01.1.trans e0.1, (e01.2.2.2.2 9).trans e0.2⟩
    have dr1 : M.2.2.1.drop i = M.2.2.1[i] :: M.2.2.1.drop (i + 1) := List.drop_eq_getElem_cons tl
    have dr2 : M.2.2.2.2.2.2.2.2.2.1.drop i = M.2.2.2.2.2.2.2.2.2.1[i] :: M.2.2.2.2.2.2.2.2.2.1.drop (i + 1) := List.drop_eq_getElem_cons il
    rw [dr1, dr2, sp_bds]
    cases hk : kBody B n D M Dc M.2.2.1[i] M.2.2.2.2.2.2.2.2.2.1[i] with
    | inl w =>
      rw [hk] at H1
      obtain ⟨h1, h2, h3⟩ := H1
      obtain ⟨Y1, -, -, -, -, -, ⟨y1, y2, y3⟩, -⟩ := id X2
      refine ⟨r1, step.trans (k_w (aX12_module_8 ..) ?_), FB, ⟨by omega, by omega⟩, h1, h2, h3⟩
      unfold tX12_module_150
      refine k_t Y1.1.2.2.1 (k_b y1 (k_t y2 ?_))
      by_cases d : Int32.ofNat (pm_ln r1 cs) ≤ Int32.ofNat (i + 1)
      · exact k_t d rfl
      · exact k_f d (k_t E0.1 (k_b E0.2 (k_t Y1.2.2.1.1 (k_f (by rw [h2, n3_0, nn_eq (by omega) (by decide)]; omega) rfl))))
    | inr v =>
      rw [hk] at H1
      obtain ⟨h1, h2⟩ := H1
      have P1 : bLp r1 lo hi cs M (i + 1) (vs ++ [v.1]) := by
        have EE : ∀ x, x < pm_sz r → ¬ xZ x → x ≠ cs + 1 + 5 * i → x ≠ cs + 1 + 5 * i + 4 → pe_E r r1 x := F1.2.1
        have Es : ∀ x, sLo lo hi x → pe_E r r1 x := fun x hx => EE x (by unfold sLo at hx; omega) (by unfold sLo at hx; unfold xZ; omega) (by unfold sLo at hx; omega) (by unfold sLo at hx; omega)
        refine ⟨by omega, by rw [List.length_append, vl]; rfl, fun j hj => ((FB.2.2.1 cs (Nat.le_refl _) (by omega) j)).trans (Rc j hj), fun j w hw => ?_, fun j h1 h2 => ?_⟩
        · by_cases c : j < i
          · rw [List.getElem?_append_left (by omega)] at hw
            exact bDn_E Es (fun x h1 h2 => EE x (by omega) (by unfold xZ; omega) (by omega) (by omega)) (EE _ (by omega) (by unfold xZ; omega) (by omega) (by omega)) (dn j w hw)
          · have jl := some_lt hw
            rw [List.length_append, vl] at jl
            have ji : j = i := by have : [v.1].length = 1 := rfl; omega
            subst ji
            rw [List.getElem?_append_right (by omega), vl, Nat.sub_self] at hw
            cases hw
            rw [← sz]
            exact h2
        · exact bFa_E Es (fun x h1 h2 => EE x (by omega) (by unfold xZ; omega) (by omega) (by omega)) (fr j (by omega) h2)
      obtain ⟨r2, e2, FB2, sz2, H2⟩ := ih (i + 1) (vs ++ [v.1]) (by omega) X2 E0 h1 P1
      refine ⟨r2, step.trans e2, bFr_t FB FB2, sz2, ?_⟩
      show match sp_b (.inr v) (fun v _ => sp_b (sp_bds B n D M Dc (M.2.2.1.drop (i + 1)) (M.2.2.2.2.2.2.2.2.2.1.drop (i + 1))) fun r _ => (.inr (v :: r, 0) : sp_O (List (Nat × tK)))) with
        | .inl w => _
        | .inr ws => _
      rw [sp_br]
      cases hb : sp_bds B n D M Dc (M.2.2.1.drop (i + 1)) (M.2.2.2.2.2.2.2.2.2.1.drop (i + 1)) with
      | inl w => rw [hb] at H2; exact H2
      | inr ws =>
        rw [hb] at H2
        obtain ⟨q1, q2, q3⟩ := H2
        refine ⟨q1, q2, ?_⟩
        rw [List.append_assoc] at q3
        exact q3
end XALL
