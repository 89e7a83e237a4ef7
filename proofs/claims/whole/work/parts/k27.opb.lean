/-! THE CLASS READS: what stands behind a section's head -/
def sec8 (M : tMd) (x : Nat) : tMd := (M.1, M.2.1, M.2.2.1, M.2.2.2.1, M.2.2.2.2.1, M.2.2.2.2.2.1, M.2.2.2.2.2.2.1, M.2.2.2.2.2.2.2.1, M.2.2.2.2.2.2.2.2.1, M.2.2.2.2.2.2.2.2.2.1, some x, M.2.2.2.2.2.2.2.2.2.2.2.1, M.2.2.2.2.2.2.2.2.2.2.2.2.1, M.2.2.2.2.2.2.2.2.2.2.2.2.2)
def sec12 (M : tMd) (x : Nat) : tMd := (M.1, M.2.1, M.2.2.1, M.2.2.2.1, M.2.2.2.2.1, M.2.2.2.2.2.1, M.2.2.2.2.2.2.1, M.2.2.2.2.2.2.2.1, M.2.2.2.2.2.2.2.2.1, M.2.2.2.2.2.2.2.2.2.1, M.2.2.2.2.2.2.2.2.2.2.1, some x, M.2.2.2.2.2.2.2.2.2.2.2.2.1, M.2.2.2.2.2.2.2.2.2.2.2.2.2)
theorem u_pr {α γ ρ : Type} {w : ρ → pm_H} {F : pm_H → Prop} {R : α → Nat → ρ → Prop} {R1 : α → Nat → γ × pm_H → Prop} {h0 : pm_H} {x : Option (γ × pm_H)} {k : γ × pm_H → Option ρ} {o1 : sp_O α} (Q : cs_Q (fun r : γ × pm_H => r.2) (fun h' => h' = h0) R1 x o1) (D : ∀ r1 a f q, f ≠ 0 → cd_Q w F f q (k (r1, rc h0 a f q))) (K : ∀ v p r, o1 = .inr (v, p) → R1 v p r → ∃ r', k r = some r' ∧ R v p r') : cs_Q w F R (x.bind k) o1 := by
  cases o1 with
  | inl z =>
    obtain ⟨hn, ⟨r1, r2⟩, h', a, e, ew, hF⟩ := Q
    have ew : r2 = _ := ew
    rw [e]
    refine ⟨hn, ?_⟩
    rw [show (some (r1, r2)).bind k = k (r1, r2) from rfl, ew, hF]
    exact D r1 a _ _ (nz_fl hn)
  | inr z =>
    obtain ⟨r, e, h1⟩ := Q
    rw [e]
    exact K z.1 z.2 r rfl h1
section OPB
variable {h : pm_H} {n b mm me sh lo last e p p2 sz id : Nat} {d : Bool} {B : Nat → Nat} {M : tMd} {q : Int32}
abbrev oNr (n b mm me sh e lo last id pl : Nat) (d : Bool) (B : Nat → Nat) (M : tMd) (q : Int32) : Nat → pm_H → Prop := fun p' r => ∃ h', r = rc h' (Int32.ofNat p') 0 q ∧ oN h' n b mm me sh e lo last id pl d B M
theorem op_0 (hp2 : p2 + sz ≤ n) (hp : p < 2147483648) (LC : lC h n b mm me n d false B) (T : dT h b mm me sh) (i12 : pm_I h 19 12 = Int32.ofNat last) (i5 : pm_I h 19 5 = on3 M.2.2.2.2.2.2.2.2.2.2.2.2.2) (CM : cMx h mm lo (pm_sz h) 0 M) (hlo : 19 < lo ∧ me < lo ∧ sh < lo ∧ b < lo ∧ mm < lo) : cs_Q wH (dF b mm me sh) (fun (_ : Unit) p' r => oNr n b mm me sh (p2 + sz) lo last 0 p d B (sec1 M 0 p) q p' r) (fX9_openSection_b93 (rc h (Int32.ofNat p2) 0 q) 19 (Int32.ofNat p) (Int32.ofNat 0) (Int64.ofNat sz)) (sp_b (sp_name B (p2 + sz) p2) fun _ _ => .inr ((), p2 + sz)) := by
  obtain ⟨h3, e3, O⟩ := op_h3 (q := q) (id := 0) (by decide) hp2 hp LC T i12 i5 CM hlo
  rw [e3]
  obtain ⟨o1, o2, o3, o4⟩ := O
  have K9 := o2.1.1
  have n4 := o2.1.2.2.2.2.2.2.1
  refine u_t (by decide) (u_p (cs_name o2.1 o2.2.2.1 o2.2.2.2.1 (by omega) q) (fun r1 a f q hf => y_t K9 (y_b (cd_skip K9 hf _ _ _) (y_r (a := a) rfl o3))) ?_)
  intro v p' r e1 er
  subst er
  have pb := sp_name_b (show p2 ≤ p2 + sz by omega) e1
  refine u_t K9 ?_
  have sk : ((pm_I (rc h3 (Int32.ofNat p') 0 q) 19 2) - (pm_I (rc h3 (Int32.ofNat p') 0 q) 19 1)).toInt64 = Int64.ofNat (p2 + sz - p') := by
    rw [show pm_I (rc h3 (Int32.ofNat p') 0 q) 19 2 = Int32.ofNat (p2 + sz) from o2.2.2.1, rc_1, nn_sb (by omega), nn_t6 (by omega)]
  dsimp only
  rw [sk]
  have SK := cs_skip o2.1 o2.2.2.1 o2.2.2.2.1 (show p' ≤ p2 + sz by omega) q (show p2 + sz - p' < 4294967296 by omega)
  unfold sp_jmp at SK
  rw [if_pos (by omega)] at SK
  obtain ⟨r, er, hr⟩ := SK
  subst hr
  refine u_b er (u_r ⟨h3, ?_, o1, o2, o3, o4⟩)
  rw [show p' + (p2 + sz - p') = p2 + sz by omega]
theorem op_8 (hp2 : p2 + sz ≤ n) (hp : p < 2147483648) (LC : lC h n b mm me n d false B) (T : dT h b mm me sh) (i12 : pm_I h 19 12 = Int32.ofNat last) (i5 : pm_I h 19 5 = on3 M.2.2.2.2.2.2.2.2.2.2.2.2.2) (CM : cMx h mm lo (pm_sz h) 0 M) (hlo : 19 < lo ∧ me < lo ∧ sh < lo ∧ b < lo ∧ mm < lo) : cs_Q wH (dF b mm me sh) (fun x p' r => oNr n b mm me sh (p2 + sz) lo last 8 p d B (sec8 (sec1 M 8 p) x) q p' r) (fX9_openSection_b93 (rc h (Int32.ofNat p2) 0 q) 19 (Int32.ofNat p) (Int32.ofNat 8) (Int64.ofNat sz)) (sp_num B (p2 + sz) p2) := by
  obtain ⟨h3, e3, O⟩ := op_h3 (q := q) (id := 8) (by decide) hp2 hp LC T i12 i5 CM hlo
  rw [e3]
  obtain ⟨o1, o2, o3, o4, o5, o6, o7, o8, o9⟩ := O
  have K9 := o2.1.1
  have dm := lC_m o2
  unfold fX9_openSection_b212
  have Q := cs_num o2.1 o2.2.2.1 o2.2.2.2.1 (show p2 ≤ p2 + sz by omega) q
  refine u_f (by decide) ?_
  refine u_pr Q (fun r1 a f q hf => y_t (by decide) (y_t K9 (y_b o3.1.1.2.1 (y_t o3.1.1.2.2.1 (y_r (h' := pm_setL h3 mm 13 r1) (a := a) rfl (dT_n o3 (nF_sL (nF_r h3)))))))) ?_
  intro x p' r e1 er
  subst er
  refine ⟨rc (pm_setL h3 mm 13 (Int64.ofNat x)) (Int32.ofNat p') 0 q, e9_t (by decide) (e9_t K9 (e9_b o3.1.1.2.1 (e9_t o3.1.1.2.2.1 rfl))), pm_setL h3 mm 13 (Int64.ofNat x), rfl, ?_, lC_g o2 (AI := fun _ _ => False) (AL := fun X Y => X = mm ∧ Y = 13) (gF_L h3 _ ⟨rfl, rfl⟩) (fun _ z => z) (fun z => z) (fun z => z) (fun z => absurd z.2 (by decide)), dT_n o3 (nF_sL (nF_r h3)), o4, o5, o6, o7, ?_, o9⟩
  · obtain ⟨c1, c2, c3, c4, c5, c6, c7, c8, c9, c10, c11, c12, d1, d3, d4, d5, d6⟩ := o1
    have KK : kC lo (pm_sz h3) h3 (pm_setL h3 mm 13 (Int64.ofNat x)) := fun y y1 y2 => ⟨rfl, rfl, rfl, by funext z; rw [ev_LL, if_neg (by omega)], rfl⟩
    have KL : kC (lo + 1) (pm_sz h3) h3 (pm_setL h3 mm 13 (Int64.ofNat x)) := fun y y1 y2 => KK y (by omega) y2
    exact ⟨fun z => cTs_k KL (Nat.le_refl _) rfl (c1 z), fun z => cAr_k st_ent KL (Nat.le_refl _) rfl (c2 z), fun z => cAr_k st_ent KL (Nat.le_refl _) rfl (c3 z), fun z => cAr_k st_ent KL (Nat.le_refl _) rfl (c4 z), fun z => cAr_k st_ent KL (Nat.le_refl _) rfl (c5 z), fun z => cAr_k st_ge KL (Nat.le_refl _) rfl (c6 z), fun z => cAr_k st_xp KL (Nat.le_refl _) rfl (c7 z), fun z => cAr_k st_el KL (Nat.le_refl _) rfl (c8 z), fun z => cAr_k st_da KL (Nat.le_refl _) rfl (c9 z), fun z => cAr_k st_bo KL (Nat.le_refl _) rfl (c10 z), by rw [ev_LL, if_pos rfl, if_pos rfl]; rfl, by rw [ev_LL, if_pos rfl, if_neg (by decide)]; exact c12, d1, d3, d4, d5, d6⟩
  · rw [ev_LL, if_neg (fun z => dm.1 z.symm)]; exact o8
theorem op_12 (hp2 : p2 + sz ≤ n) (hp : p < 2147483648) (LC : lC h n b mm me n d false B) (T : dT h b mm me sh) (i12 : pm_I h 19 12 = Int32.ofNat last) (i5 : pm_I h 19 5 = on3 M.2.2.2.2.2.2.2.2.2.2.2.2.2) (CM : cMx h mm lo (pm_sz h) 0 M) (hlo : 19 < lo ∧ me < lo ∧ sh < lo ∧ b < lo ∧ mm < lo) : cs_Q wH (dF b mm me sh) (fun x p' r => x < 4294967296 ∧ oNr n b mm me sh (p2 + sz) lo last 12 p true B (sec12 (sec1 M 12 p) x) q p' r) (fX9_openSection_b93 (rc h (Int32.ofNat p2) 0 q) 19 (Int32.ofNat p) (Int32.ofNat 12) (Int64.ofNat sz)) (sp_num B (p2 + sz) p2) := by
  obtain ⟨h3, e3, O⟩ := op_h3 (q := q) (id := 12) (by decide) hp2 hp LC T i12 i5 CM hlo
  rw [e3]
  obtain ⟨o1, o2, o3, o4, o5, o6, o7, o8, o9⟩ := O
  have K9 := o2.1.1
  have dm := lC_m o2
  unfold fX9_openSection_b212
  have Q := cs_num o2.1 o2.2.2.1 o2.2.2.2.1 (show p2 ≤ p2 + sz by omega) q
  refine u_f (by decide) ?_
  refine u_pr Q (fun r1 a f q hf => y_f (by decide) (y_t (by decide) (y_t K9 (y_b o3.1.1.2.1 (y_t o3.1.1.2.2.1 (y_r (h' := pm_setL h3 mm 14 r1) (a := a) rfl (dT_n o3 (nF_sL (nF_r h3))))))))) ?_
  intro x p' r e1 er
  subst er
  have xl : x < 4294967296 := sp_nu_v o2.1.2.2.2.2.2.2.2.2.2 (by decide) (by decide) (by decide) e1
  refine ⟨rc (pm_setL h3 mm 14 (Int64.ofNat x)) (Int32.ofNat p') 0 q, e9_f (by decide) (e9_t (by decide) (e9_t K9 (e9_b o3.1.1.2.1 (e9_t o3.1.1.2.2.1 rfl)))), xl, pm_setL h3 mm 14 (Int64.ofNat x), rfl, ?_, ?_, dT_n o3 (nF_sL (nF_r h3)), o4, o5, o6, o7, ?_, o9⟩
  · obtain ⟨c1, c2, c3, c4, c5, c6, c7, c8, c9, c10, c11, c12, d1, d3, d4, d5, d6⟩ := o1
    have KL : kC (lo + 1) (pm_sz h3) h3 (pm_setL h3 mm 14 (Int64.ofNat x)) := fun y y1 y2 => ⟨rfl, rfl, rfl, by funext z; rw [ev_LL, if_neg (by omega)], rfl⟩
    exact ⟨fun z => cTs_k KL (Nat.le_refl _) rfl (c1 z), fun z => cAr_k st_ent KL (Nat.le_refl _) rfl (c2 z), fun z => cAr_k st_ent KL (Nat.le_refl _) rfl (c3 z), fun z => cAr_k st_ent KL (Nat.le_refl _) rfl (c4 z), fun z => cAr_k st_ent KL (Nat.le_refl _) rfl (c5 z), fun z => cAr_k st_ge KL (Nat.le_refl _) rfl (c6 z), fun z => cAr_k st_xp KL (Nat.le_refl _) rfl (c7 z), fun z => cAr_k st_el KL (Nat.le_refl _) rfl (c8 z), fun z => cAr_k st_da KL (Nat.le_refl _) rfl (c9 z), fun z => cAr_k st_bo KL (Nat.le_refl _) rfl (c10 z), by rw [ev_LL, if_pos rfl, if_neg (by decide)]; exact c11, by rw [ev_LL, if_pos rfl, if_pos rfl]; rfl, d1, d3, d4, d5, d6⟩
  · obtain ⟨C, E, ie, he, ib, dt⟩ := o2
    obtain ⟨a1, a2, a3, a4, a5, a6, a7, a8, a9, a10⟩ := C
    refine ⟨⟨a1, a2, a3, a4, a5, a6, a7, a8, a9, a10⟩, E, ie, he, ib, ?_⟩
    rw [ev_LL, if_pos rfl, if_pos rfl]
    exact propext ⟨fun _ => rfl, fun _ => by rw [n6_0, ll_le (by decide) (by omega)]; exact Nat.zero_le _⟩
  · rw [ev_LL, if_neg (fun z => dm.1 z.symm)]; exact o8
end OPB
