/-! THE CLASS READS: the head of a section -/
/-- the head of a section: its id, its size -/
def sp_hd (B : Nat → Nat) (n last p : Nat) : sp_O (Nat × Nat) := sp_b (sp_next B n p) fun id p1 => if 12 < id ∨ (0 < id ∧ rk id ≤ last) then .inl (6, p) else sp_b (sp_num B n p1) fun sz p2 => if n < p2 + sz then .inl (2, p1) else .inr ((id, sz), p2)
theorem fX9_rk {id : Nat} (h : id < 13) : fX9_rank (Int32.ofNat id) = Int32.ofNat (rk id) := by
  have : ∀ j, j < 13 → fX9_rank (Int32.ofNat j) = Int32.ofNat (rk j) := by decide
  exact this id h
theorem rk_13 {id : Nat} (h : id < 13) : rk id < 13 := by unfold rk; split <;> (try split) <;> (try split) <;> omega
section HEAD
variable {A : Nat → Prop} {h0 h : pm_H} {n b mm me sh lo last e p p2 sz i id : Nat} {d : Bool} {B : Nat → Nat} {M : tMd} {f q : Int32}
theorem cd_73 (T : dT h b mm me sh) (hf : f ≠ 0) (a x1 x2 : Int32) (x4 : Int64) : cd_Q wH (dF b mm me sh) f q (fX9_openSection_b73 (rc h a f q) 19 x1 x2 x4) := by
  unfold fX9_openSection_b73
  exact y_t T.1.1.1 (y_f hf (y_r (a := a) rfl T))
theorem cd_38 (T : dT h b mm me sh) (hf : f ≠ 0) (a x1 x2 : Int32) : cd_Q wH (dF b mm me sh) f q (fX9_openSection_b38 (rc h a f q) 19 x1 x2) := by
  have K9 := T.1.1.1
  unfold fX9_openSection_b38
  exact y_t K9 (y_l (y_num (nF_r h) K9 hf (by decide) (y_t K9 (y_i (fun _ => cd_73 T hf a x1 x2 0) (fun _ => y_fail (nF_r h) K9 hf (cd_73 T hf a x1 x2 0))))))
theorem adv_o {H : pm_H} (K9 : pm_kd H 19 = 9) (i10 : pm_I H 19 10 = -1) : fX9_advance H 19 = (fX9_openSection H 19).bind fun v => fX9_advance_b138 v 19 := by
  unfold fX9_advance fX9_advance_b0
  refine e9_t K9 ?_
  rw [i10]
  exact e9_f (by decide) rfl
/-- a section's head: a fault, or the section is opened -/
theorem head (C : clS h n b mm me sh lo last d B M) (hpn : p < n) (hl : last < 13) (hlo : 19 < lo) (q : Int32) : match sp_hd B n last p with
    | .inl (fl, pl) => (0 < fl ∧ fl < 100) ∧ cd_Q wH (dF b mm me sh) (Int32.ofNat fl) (Int32.ofNat pl) (fX9_advance (rc h (Int32.ofNat p) 0 q) 19)
    | .inr (v, p2) => ∃ h2, fX9_advance (rc h (Int32.ofNat p) 0 q) 19 = (fX9_openSection_b93 (rc h2 (Int32.ofNat p2) 0 q) 19 (Int32.ofNat p) (Int32.ofNat v.1) (Int64.ofNat v.2)).bind (fun v => fX9_advance_b138 v 19) ∧ clS h2 n b mm me sh lo (if v.1 = 0 then last else rk v.1) d B M ∧ v.1 < 13 ∧ p < p2 ∧ p2 + v.2 ≤ n ∧ (v.1 = 0 ∨ last < rk v.1) := by
  obtain ⟨CM, LC, T, i10, i12, i5⟩ := C
  have K9 := LC.1.1
  have n4 := LC.1.2.2.2.2.2.2.1
  have hB := LC.1.2.2.2.2.2.2.2.2.2
  have AO := adv_o (H := rc h (Int32.ofNat p) 0 q) K9 i10
  have NX := cs_next LC.1 LC.2.2.1 LC.2.2.2.1 (show p ≤ n by omega) q
  unfold sp_next at NX
  rw [if_pos hpn] at NX
  obtain ⟨r, er, rr⟩ := NX
  subst rr
  have dead : ∀ (fl pl : Nat) (a : Int32), 0 < fl ∧ fl < 100 → fX9_openSection (rc h (Int32.ofNat p) 0 q) 19 = fX9_openSection_b38 (rc h a (Int32.ofNat fl) (Int32.ofNat pl)) 19 (Int32.ofNat p) (Int32.ofNat (B p)) → cd_Q wH (dF b mm me sh) (Int32.ofNat fl) (Int32.ofNat pl) (fX9_advance (rc h (Int32.ofNat p) 0 q) 19) := by
    intro fl pl a hfl e1
    rw [AO, e1]
    exact y_h (cd_38 T (nz_fl hfl) a _ _) (fun h2 a2 T2 => cd_138 T2 (nz_fl hfl) a2)
  have OS : fX9_openSection (rc h (Int32.ofNat p) 0 q) 19 = if 12 < B p ∨ (0 < B p ∧ rk (B p) ≤ last) then fX9_openSection_b38 (rc h (Int32.ofNat (p + 1)) (Int32.ofNat 6) (Int32.ofNat p)) 19 (Int32.ofNat p) (Int32.ofNat (B p)) else fX9_openSection_b38 (rc h (Int32.ofNat (p + 1)) 0 q) 19 (Int32.ofNat p) (Int32.ofNat (B p)) := by
    have hb := hB p
    unfold fX9_openSection fX9_openSection_b0
    refine e9_t K9 (e9_l (e9_b er ?_))
    by_cases c : 12 < B p
    · rw [if_pos (show 12 < B p ∨ (0 < B p ∧ rk (B p) ≤ last) from .inl c)]
      exact e9_t (show (12 : Int32) < Int32.ofNat (B p) by rw [show (12 : Int32) = Int32.ofNat 12 from rfl, nn_lt (by decide) (by omega)]; exact c) (e9_t K9 (e9_b (cs_fail K9 _ _ _ _) rfl))
    · refine e9_f (show ¬ (12 : Int32) < Int32.ofNat (B p) by rw [show (12 : Int32) = Int32.ofNat 12 from rfl, nn_lt (by decide) (by omega)]; exact c) ?_
      by_cases c0 : 0 < B p
      · refine e9_f (show ¬ Int32.ofNat (B p) ≤ 0 by rw [n3_0, nn_le (by omega) (by decide)]; omega) (e9_l ?_)
        rw [fX9_rk (show B p < 13 by omega)]
        have r13 := rk_13 (show B p < 13 by omega)
        refine e9_t K9 ?_
        rw [show pm_I (rc h (Int32.ofNat (p + 1)) 0 q) 19 12 = Int32.ofNat last from i12]
        by_cases c1 : last < rk (B p)
        · rw [if_neg (show ¬ (12 < B p ∨ (0 < B p ∧ rk (B p) ≤ last)) by omega)]
          exact e9_t (show Int32.ofNat last < Int32.ofNat (rk (B p)) by rw [nn_lt (by omega) (by omega)]; exact c1) rfl
        · rw [if_pos (show 12 < B p ∨ (0 < B p ∧ rk (B p) ≤ last) by omega)]
          exact e9_f (show ¬ Int32.ofNat last < Int32.ofNat (rk (B p)) by rw [nn_lt (by omega) (by omega)]; exact c1) (e9_b (cs_fail K9 _ _ _ _) rfl)
      · rw [if_neg (show ¬ (12 < B p ∨ (0 < B p ∧ rk (B p) ≤ last)) by omega)]
        exact e9_t (show Int32.ofNat (B p) ≤ 0 by rw [n3_0, nn_le (by omega) (by decide)]; omega) rfl
  unfold sp_hd sp_next
  rw [if_pos hpn, sp_br]
  by_cases c : 12 < B p ∨ (0 < B p ∧ rk (B p) ≤ last)
  · rw [if_pos c]
    rw [if_pos c] at OS
    exact ⟨by decide, dead 6 p _ (by decide) OS⟩
  · rw [if_neg c]
    rw [if_neg c] at OS
    have NU := cs_num LC.1 LC.2.2.1 LC.2.2.2.1 (show p + 1 ≤ n by omega) q
    cases hnum : sp_num B n (p + 1) with
    | inl z =>
      rw [hnum] at NU
      rw [sp_bl]
      obtain ⟨hfl, ⟨r1, r2⟩, h', a, e1, ew, hF⟩ := NU
      have ew : r2 = _ := ew
      have r0 : r1 = 0 := num_z e1 (by show pm_I r2 19 3 ≠ 0; rw [ew]; exact nz_fl hfl)
      subst hF
      refine ⟨hfl, ?_⟩
      rw [AO, OS]
      refine y_h ?_ (fun h2 a2 T2 => cd_138 T2 (nz_fl hfl) a2)
      unfold fX9_openSection_b38
      refine y_t K9 (y_l (y_b e1 ?_))
      dsimp only
      rw [ew, r0]
      exact y_t K9 (y_i (fun _ => cd_73 T (nz_fl hfl) a _ _ 0) (fun _ => y_fail (nF_r _) K9 (nz_fl hfl) (cd_73 T (nz_fl hfl) a _ _ 0)))
    | inr z =>
      obtain ⟨sz, p2⟩ := z
      have pb := sp_num_b (show p + 1 ≤ n by omega) hnum
      have sl : sz < 4294967296 := sp_nu_v hB (by decide) (by decide) (by decide) hnum
      rw [hnum] at NU
      rw [sp_br]
      obtain ⟨r, e1, rr⟩ := NU
      have rr : r = (Int64.ofNat sz, rc h (Int32.ofNat p2) 0 q) := rr
      subst rr
      have cmp : (Int64.ofNat sz ≤ ((pm_I (rc h (Int32.ofNat p2) 0 q) 19 2) - (pm_I (rc h (Int32.ofNat p2) 0 q) 19 1)).toInt64) = (sz ≤ n - p2) := by
        rw [show pm_I (rc h (Int32.ofNat p2) 0 q) 19 2 = Int32.ofNat n from LC.2.2.1, rc_1, nn_sb (by omega), nn_t6 (by omega), ll_le (by omega) (by omega)]
      by_cases c2 : n < p2 + sz
      · rw [if_pos c2]
        refine ⟨by decide, ?_⟩
        rw [AO, OS]
        refine y_h ?_ (fun h2 a2 T2 => cd_138 T2 (by decide) a2)
        unfold fX9_openSection_b38
        refine y_t K9 (y_l (y_b e1 (y_t K9 (y_f (by rw [cmp]; omega) (y_b (cs_fail K9 _ _ _ _) ?_)))))
        exact cd_73 T (by decide) _ _ _ _
      · rw [if_neg c2]
        have r13 := rk_13 (show B p < 13 by omega)
        have O38 : fX9_openSection_b38 (rc h (Int32.ofNat (p + 1)) 0 q) 19 (Int32.ofNat p) (Int32.ofNat (B p)) = fX9_openSection_b73 (rc h (Int32.ofNat p2) 0 q) 19 (Int32.ofNat p) (Int32.ofNat (B p)) (Int64.ofNat sz) := by
          unfold fX9_openSection_b38
          exact e9_t K9 (e9_l (e9_b e1 (e9_t K9 (e9_t (by rw [cmp]; omega) rfl))))
        by_cases c0 : B p = 0
        · refine ⟨h, ?_, ?_, show B p < 13 by omega, show p < p2 by omega, show p2 + sz ≤ n by omega, .inl c0⟩
          · rw [AO, OS, O38]
            unfold fX9_openSection_b73
            rw [if_pos (show pm_kd (rc h (Int32.ofNat p2) 0 q) 19 = 9 from K9), if_pos (show pm_I (rc h (Int32.ofNat p2) 0 q) 19 3 = 0 from rfl), if_pos (show Int32.ofNat (B p) ≤ 0 by rw [c0]; decide)]
          · rw [if_pos c0]
            exact ⟨CM, LC, T, i10, i12, i5⟩
        · refine ⟨pm_setI h 19 12 (Int32.ofNat (rk (B p))), ?_, ?_, show B p < 13 by omega, show p < p2 by omega, show p2 + sz ≤ n by omega, .inr (show last < rk (B p) by omega)⟩
          · rw [AO, OS, O38]
            unfold fX9_openSection_b73
            rw [if_pos (show pm_kd (rc h (Int32.ofNat p2) 0 q) 19 = 9 from K9), if_pos (show pm_I (rc h (Int32.ofNat p2) 0 q) 19 3 = 0 from rfl), if_neg (show ¬ Int32.ofNat (B p) ≤ 0 by rw [n3_0, nn_le (by omega) (by decide)]; omega), fX9_rk (show B p < 13 by omega)]
            unfold pm_let
            dsimp only
            rw [rc_19 _ _ _ _ _ (by decide) (by decide) (by decide)]
          · rw [if_neg c0]
            have dm := lC_m LC
            refine ⟨cMx_k (h := h) (hi := pm_sz h) (skip := 0) (fun y y1 y2 => ⟨rfl, rfl, by funext z; rw [ev_II, if_neg (by omega)], rfl, rfl⟩) (Nat.le_refl _) (.inl rfl) (fun _ _ _ _ _ => rfl) (by omega) rfl rfl CM, ?_, dT_n T (nF_sI (nF_r h)), by rw [ev_II, if_pos rfl, if_neg (by decide)]; exact i10, by rw [ev_II, if_pos rfl, if_pos rfl], by rw [ev_II, if_pos rfl, if_neg (by decide)]; exact i5⟩
            obtain ⟨⟨K, rm0, km, rb, kb, lb, hn, b9, hB, hB2⟩, ⟨r17, kme, lme, m9, mb, m7⟩, ie, he, ib, dt⟩ := LC
            exact ⟨⟨K, rm0, km, rb, kb, lb, hn, b9, fun i hi => by rw [ev_II, if_neg b9]; exact hB i hi, hB2⟩, ⟨r17, kme, lme, m9, mb, m7⟩, by rw [ev_II, if_pos rfl, if_neg (by decide)]; exact ie, he, by rw [ev_II, if_pos rfl, if_neg (by decide)]; exact ib, dt⟩
end HEAD
