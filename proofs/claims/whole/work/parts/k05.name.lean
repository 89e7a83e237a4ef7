/-! THE CLASS READS: a character's length, a name -/
section EQR
variable {α δ : Type} {x : α}
theorem e9_t {c : Prop} {i : Decidable c} {a b : α} (h : c) (q : a = x) : @ite _ c i a b = x := by rw [if_pos h]; exact q
theorem e9_f {c : Prop} {i : Decidable c} {a b : α} (h : ¬ c) (q : b = x) : @ite _ c i a b = x := by rw [if_neg h]; exact q
theorem e9_l {e : δ} {k : δ → α} (q : k e = x) : pm_let e k = x := q
theorem e9_b {β : Type} {z : Option β} {y : Option δ} {v : δ} {k : δ → Option β} (e : y = some v) (q : k v = z) : y.bind k = z := by rw [e]; exact q
end EQR
theorem sp_bb {α β γ : Type} (o : sp_O α) (k : α → Nat → sp_O β) (k' : β → Nat → sp_O γ) : sp_b (sp_b o k) k' = sp_b o fun v p => sp_b (k v p) k' := by cases o <;> rfl
section CNAME
variable {h : pm_H} {n b mm e t p : Nat} {B : Nat → Nat}
theorem cc_97 (K : pm_kd h 19 = 9) (f q : Int32) {s m : Nat} (h0 : 0 < s) (hs : s ≤ 3) (ht : t ≤ 40960) (hp : p < t) {y : Int32} (hy : y &&& ((63 : Int32) >>> (Int32.ofNat s &&& 31)) = Int32.ofNat m) : pm_lim (sX9_characterLength (rc h (Int32.ofNat t) f q)) (.inl (19, Int32.ofNat p, y, Int32.ofNat s)) = if p + s < t then pm_lim (sX9_characterLength (rc h (Int32.ofNat t) f q)) (.inr (.inl (19, Int32.ofNat p, Int32.ofNat s, Int32.ofNat m, Int32.ofNat 1))) else some 0 := by
  refine k_w (aX9_characterLength_0 ..) ?_
  unfold tX9_characterLength_97
  have c : (Int32.ofNat s < pm_I (rc h (Int32.ofNat t) f q) 19 1 - Int32.ofNat p) = (p + s < t) := by
    show (Int32.ofNat s < Int32.ofNat t - Int32.ofNat p) = _
    rw [nn_sb (by omega), nn_lt (by omega) (by omega)]
    exact propext ⟨fun z => by omega, fun z => by omega⟩
  refine k_f (show ¬ Int32.ofNat s = 0 by rw [n3_0, nn_eq (by omega) (by decide)]; omega) (k_t K ?_)
  by_cases cc : p + s < t
  · rw [if_pos cc]
    refine k_t (by rw [c]; exact cc) (k_l (k_n ?_))
    rw [hy]
    rfl
  · rw [if_neg cc]
    exact k_f (by rw [c]; exact cc) rfl
theorem c9_hy : ∀ c : Fin 256, Int32.ofNat c.val &&& ((63 : Int32) >>> (Int32.ofNat 1 &&& 31)) = Int32.ofNat (c.val % 32) ∧ Int32.ofNat c.val &&& ((63 : Int32) >>> (Int32.ofNat 2 &&& 31)) = Int32.ofNat (c.val % 16) ∧ Int32.ofNat c.val &&& ((63 : Int32) >>> (Int32.ofNat 3 &&& 31)) = Int32.ofNat (c.val % 8) := by decide +kernel
theorem cs_chr (C : cS h n b mm B) (f q : Int32) (ht : t ≤ n) (hp : p < t) : fX9_characterLength (rc h (Int32.ofNat t) f q) 19 (Int32.ofNat p) = some (Int32.ofNat (sp_chr B t p)) := by
  have C' := C
  obtain ⟨K, rm0, km, rb, kb, lb, hn, b9, hB, hB2⟩ := C
  have eb : pm_I (rc h (Int32.ofNat t) f q) b p &&& 255 = Int32.ofNat (B p) := by rw [rc_x _ _ _ _ b9]; exact hB _ (by omega)
  have b256 := hB2 p
  have b1 := hB2 (p + 1)
  have b2 := hB2 (p + 2)
  obtain ⟨y1, y2, y3⟩ := c9_hy ⟨B p, b256⟩
  have L : ∀ k : Nat, k < 1000 → (Int32.ofNat k ≤ Int32.ofNat (B p)) = (k ≤ B p) := fun k hk => nn_le (by omega) (by omega)
  unfold fX9_characterLength
  refine e9_f (show ¬ Int32.ofNat p < 0 by rw [n3_0, nn_lt (by omega) (by decide)]; omega) (e9_t K (e9_b rm0 (e9_t km (e9_b rb (e9_t kb (e9_f (show ¬ Int32.ofNat (pm_ln h b) < Int32.ofNat t by rw [lb, nn_lt (by omega) (by omega)]; omega) (e9_t (show Int32.ofNat p < Int32.ofNat t by rw [nn_lt (by omega) (by omega)]; exact hp) (e9_t (show pm_in (Int32.ofNat p) (pm_ln h b) by rw [lb, nn_in (by omega)]; omega) (e9_l ?_)))))))))
  rw [nn_cm (by omega), eb]
  unfold sp_chr
  by_cases c1 : B p < 128
  · rw [if_pos c1]
    exact e9_f (show ¬ Int32.ofNat 128 ≤ Int32.ofNat (B p) by rw [L _ (by decide)]; omega) rfl
  rw [if_neg c1]
  refine e9_t (show Int32.ofNat 128 ≤ Int32.ofNat (B p) by rw [L _ (by decide)]; omega) ?_
  have z0 : pm_lim (sX9_characterLength (rc h (Int32.ofNat t) f q)) (.inl (19, Int32.ofNat p, Int32.ofNat (B p), 0)) = some (Int32.ofNat 0) := by
    refine k_w (aX9_characterLength_0 ..) ?_
    unfold tX9_characterLength_97
    exact k_t rfl rfl
  by_cases c2 : B p < 192
  · rw [if_pos c2]
    exact e9_f (show ¬ Int32.ofNat 192 ≤ Int32.ofNat (B p) by rw [L _ (by decide)]; omega) z0
  rw [if_neg c2]
  refine e9_t (show Int32.ofNat 192 ≤ Int32.ofNat (B p) by rw [L _ (by decide)]; omega) ?_
  by_cases c3 : B p < 224
  · rw [if_pos c3]
    refine e9_f (show ¬ Int32.ofNat 224 ≤ Int32.ofNat (B p) by rw [L _ (by decide)]; omega) ?_
    refine (cc_97 (s := 1) K f q (by decide) (by decide) (by omega) hp y1).trans ?_
    by_cases d1 : p + 1 < t
    · rw [if_pos d1, cc_125 (s := 1) (j := 1) C' f q (by decide) (by decide) ht d1 (show B p % 32 < 33554432 by omega)]
      by_cases d2 : B (p + 1) / 64 = 2
      · rw [if_pos d2, cc_fin (s := 1) _ (by decide) (by decide) (by omega)]
        refine congrArg (fun z => some (Int32.ofNat z)) ?_
        unfold c_mn
        rw [if_pos rfl]
        split <;> split <;> first | rfl | omega
      · rw [if_neg d2, if_neg (fun z => d2 z.2.1)]
        rfl
    · rw [if_neg d1, if_neg (fun z => d1 z.1)]
      rfl
  rw [if_neg c3]
  refine e9_t (show Int32.ofNat 224 ≤ Int32.ofNat (B p) by rw [L _ (by decide)]; omega) ?_
  by_cases c4 : B p < 240
  · rw [if_pos c4]
    refine e9_f (show ¬ Int32.ofNat 240 ≤ Int32.ofNat (B p) by rw [L _ (by decide)]; omega) ?_
    refine (cc_97 (s := 2) K f q (by decide) (by decide) (by omega) hp y2).trans ?_
    by_cases d1 : p + 2 < t
    · rw [if_pos d1, cc_125 (s := 2) (j := 1) C' f q (by decide) (by decide) ht (by omega) (show B p % 16 < 33554432 by omega)]
      by_cases d2 : B (p + 1) / 64 = 2
      · rw [if_pos d2, cc_125 (s := 2) (j := 2) C' f q (by decide) (by decide) ht (by omega) (by omega)]
        by_cases d3 : B (p + 2) / 64 = 2
        · rw [if_pos d3, cc_fin (s := 2) _ (by decide) (by decide) (by omega)]
          refine congrArg (fun z => some (Int32.ofNat z)) ?_
          unfold c_mn
          rw [if_neg (show ¬ (2 = 1) by decide), if_pos rfl]
          split <;> split <;> first | rfl | omega
        · rw [if_neg d3, if_neg (fun z => d3 z.2.2.1)]
          rfl
      · rw [if_neg d2, if_neg (fun z => d2 z.2.1)]
        rfl
    · rw [if_neg d1, if_neg (fun z => d1 z.1)]
      rfl
  rw [if_neg c4]
  refine e9_t (show Int32.ofNat 240 ≤ Int32.ofNat (B p) by rw [L _ (by decide)]; omega) ?_
  by_cases c5 : B p < 248
  · rw [if_pos c5]
    refine e9_f (show ¬ Int32.ofNat 248 ≤ Int32.ofNat (B p) by rw [L _ (by decide)]; omega) ?_
    refine (cc_97 (s := 3) K f q (by decide) (by decide) (by omega) hp y3).trans ?_
    by_cases d1 : p + 3 < t
    · rw [if_pos d1, cc_125 (s := 3) (j := 1) C' f q (by decide) (by decide) ht (by omega) (show B p % 8 < 33554432 by omega)]
      by_cases d2 : B (p + 1) / 64 = 2
      · rw [if_pos d2, cc_125 (s := 3) (j := 2) C' f q (by decide) (by decide) ht (by omega) (by omega)]
        by_cases d3 : B (p + 2) / 64 = 2
        · rw [if_pos d3, cc_125 (s := 3) (j := 3) C' f q (by decide) (by decide) ht (by omega) (by omega)]
          by_cases d4 : B (p + 3) / 64 = 2
          · rw [if_pos d4, cc_fin (s := 3) _ (by decide) (by decide) (by omega)]
            refine congrArg (fun z => some (Int32.ofNat z)) ?_
            unfold c_mn
            rw [if_neg (show ¬ (3 = 1) by decide), if_neg (show ¬ (3 = 2) by decide)]
            split <;> split <;> first | rfl | omega
          · rw [if_neg d4, if_neg (fun z => d4 z.2.2.2.1)]
            rfl
        · rw [if_neg d3, if_neg (fun z => d3 z.2.2.1)]
          rfl
      · rw [if_neg d2, if_neg (fun z => d2 z.2.1)]
        rfl
    · rw [if_neg d1, if_neg (fun z => d1 z.1)]
      rfl
  rw [if_neg c5]
  exact e9_t (show Int32.ofNat 248 ≤ Int32.ofNat (B p) by rw [L _ (by decide)]; omega) z0
theorem cd_nl (K : pm_kd h 19 = 9) {f : Int32} (hf : f ≠ 0) (a q : Int32) (x1 : Int64) (x3 : Int32) : cd_Q (fun r : Int32 × pm_H => r.2) (fun h' => h' = h) f q (pm_lim sX9_name (19, x1, x3, rc h a f q)) := by
  refine z_w (aX9_name_0 ..) ?_
  unfold tX9_name_17
  have z : ¬ pm_I (rc h a f q) 19 3 = 0 := hf
  exact z_t K (z_i (fun _ => z_f z (z_r (y_r (a := a) rfl rfl))) (fun _ => z_f z (z_f z (z_r (y_r (a := a) rfl rfl)))))
theorem cd_name (K : pm_kd h 19 = 9) {f : Int32} (hf : f ≠ 0) (a q : Int32) : cd_Q (fun r : Int32 × pm_H => r.2) (fun h' => h' = h) f q (fX9_name (rc h a f q) 19) := by
  unfold fX9_name
  exact y_t K (y_b (cd_num K hf a q 32 (by decide)) (y_t K (y_l (y_b (cd_skip K hf _ _ _) (cd_nl K hf _ _ _ _)))))
theorem sp_chr_4 (B : Nat → Nat) (t p : Nat) : sp_chr B t p ≤ 4 := by
  unfold sp_chr
  repeat' split
  all_goals omega
theorem cs_nml (C : cS h n b mm B) (q : Int32) {x p0 : Nat} (hx : x < 4294967296) (ht : t ≤ n) (h0 : p0 + x = t) : ∀ (N p : Nat), t ≤ p + N → p < 50000 → cs_Q (fun r : Int32 × pm_H => r.2) (fun h' => h' = h) (fun v p' r => r = (Int32.ofNat (p' - v), rc h (Int32.ofNat p') 0 q) ∧ v = p0 ∧ p' = t) (pm_lim sX9_name (19, Int64.ofNat x, Int32.ofNat p, rc h (Int32.ofNat t) 0 q)) (match sp_bad B t N p with
  | some y => .inl (9, y)
  | none => .inr (p0, t)) := by
  have K := C.1
  have n4 := C.2.2.2.2.2.2.1
  have base : ∀ p : Nat, t ≤ p → p < 50000 → cs_Q (fun r : Int32 × pm_H => r.2) (fun h' => h' = h) (fun v p' r => r = (Int32.ofNat (p' - v), rc h (Int32.ofNat p') 0 q) ∧ v = p0 ∧ p' = t) (pm_lim sX9_name (19, Int64.ofNat x, Int32.ofNat p, rc h (Int32.ofNat t) 0 q)) (.inr (p0, t)) := by
    intro p hp hp2
    refine v_w (aX9_name_0 ..) ?_
    unfold tX9_name_17
    refine v_t K (v_t (show Int32.ofNat t ≤ Int32.ofNat p by rw [nn_le (by omega) (by omega)]; exact hp) (v_t rfl (v_r (u_r ⟨?_, rfl, rfl⟩))))
    rw [ll_t3, show t - p0 = x by omega]
  intro N
  induction N with
  | zero => exact fun p hN hp => base p (by omega) hp
  | succ N ih =>
    intro p hN hp
    by_cases c : p < t
    · have c4 := sp_chr_4 B t p
      rw [sp_bad, if_pos c]
      refine v_w (aX9_name_0 ..) ?_
      unfold tX9_name_17
      refine v_t K (v_f (show ¬ Int32.ofNat t ≤ Int32.ofNat p by rw [nn_le (by omega) (by omega)]; omega) (v_t rfl (v_b (cs_chr C 0 q ht c) ?_)))
      by_cases cz : sp_chr B t p = 0
      · rw [if_pos cz]
        refine v_t (by rw [cz]; rfl) (v_b (cs_fail K _ _ _ _) (v_l (v_n ?_)))
        exact ⟨by decide, cd_nl K (by decide) _ _ _ _⟩
      · rw [if_neg cz]
        refine v_f (show ¬ Int32.ofNat (sp_chr B t p) = 0 by rw [n3_0, nn_eq (by omega) (by decide)]; exact cz) (v_l (v_n ?_))
        have ee : Int32.ofNat p + (if (1 : Int32) < Int32.ofNat (sp_chr B t p) then Int32.ofNat (sp_chr B t p) else 1) = Int32.ofNat (p + sp_chr B t p) := by
          have : (if (1 : Int32) < Int32.ofNat (sp_chr B t p) then Int32.ofNat (sp_chr B t p) else 1) = Int32.ofNat (sp_chr B t p) := by
            by_cases c1 : sp_chr B t p = 1
            · rw [c1]; rfl
            · exact if_pos (show Int32.ofNat 1 < Int32.ofNat (sp_chr B t p) by rw [nn_lt (by decide) (by omega)]; omega)
          rw [this, nn_ad]
        rw [ee]
        exact ih _ (by omega) (by omega)
    · rw [show sp_bad B t (N + 1) p = none by rw [sp_bad, if_neg c]]
      exact base p (by omega) hp
theorem cs_name (C : cS h n b mm B) (ie : pm_I h 19 2 = Int32.ofNat e) (he : e ≤ n) (hp : p ≤ e) (q : Int32) : cs_Q (fun r : Int32 × pm_H => r.2) (fun h' => h' = h) (fun v p' r => r = (Int32.ofNat (p' - v), rc h (Int32.ofNat p') 0 q)) (fX9_name (rc h (Int32.ofNat p) 0 q) 19) (sp_name B e p) := by
  have K : pm_kd h 19 = 9 := C.1
  have n4 : n ≤ 40960 := C.2.2.2.2.2.2.1
  have hb := C.2.2.2.2.2.2.2.2.2
  unfold fX9_name sp_name
  refine u_t K (u_c (cs_num C ie he hp q) ?_ ?_)
  · rintro ⟨r1, r2⟩ h' a f q' hf er hF
    subst hF
    have er : r2 = _ := er
    subst er
    exact y_t K (y_l (y_b (cd_skip K hf _ _ _) (cd_nl K hf _ _ _ _)))
  · intro v p1 r e1 er
    subst er
    have pb := sp_num_b hp e1
    have vl := sp_nu_v hb (by decide) (by decide) (by decide) e1
    have vl : v < 4294967296 := vl
    have S := cs_skip C ie he (show p1 ≤ e by omega) q vl
    refine u_t K (u_l ?_)
    unfold sp_jmp at S
    by_cases c : p1 + v ≤ e
    · rw [if_pos c] at S
      rw [if_pos c]
      obtain ⟨r, e2, er⟩ := S
      subst er
      refine u_b e2 ?_
      exact u_w (cs_nml C q vl (show p1 + v ≤ n by omega) rfl v p1 (Nat.le_refl _) (by omega)) (fun _ z => z) (fun _ _ _ _ z => z.1)
    · rw [if_neg c] at S
      rw [if_neg c]
      obtain ⟨hn, r, h', a, e2, ew, hF⟩ := S
      subst hF
      refine u_b e2 ⟨hn, ?_⟩
      have ew : r = _ := ew
      subst ew
      exact cd_nl K (by decide) _ _ _ _
end CNAME
