/-! THE CLASS READS: numbers with sign; a byte up to something; a jump -/
theorem c9_e4 : ∀ c : Fin 256, fX9_endsNumber (Int32.ofNat c.val) (Int32.ofNat 32 - Int32.ofNat 28) 1 = if sp_end 32 4 c.val = false then 0 else 1 := by decide +kernel
theorem c9_e5 : ∀ c : Fin 256, fX9_endsNumber (Int32.ofNat c.val) (Int32.ofNat 33 - Int32.ofNat 28) 1 = if sp_end 33 4 c.val = false then 0 else 1 := by decide +kernel
theorem c9_e1 : ∀ c : Fin 256, fX9_endsNumber (Int32.ofNat c.val) (Int32.ofNat 64 - Int32.ofNat 63) 1 = if sp_end 64 9 c.val = false then 0 else 1 := by decide +kernel
theorem c9_64 : ∀ c : Fin 256, (Int32.ofNat c.val &&& 64 = 0) ↔ c.val / 64 % 2 = 0 := by decide +kernel
theorem sp_sg_n (B : Nat → Nat) (e bits N k : Nat) (w : Int64) (p : Nat) : sp_sg B e bits (N + 1) k w p = sp_b (sp_next B e p) fun c p1 => if N = 0 ∧ sp_end bits k c = false then .inl (4, p) else if c < 128 then .inr (sp_sx k c (sp_sa k c w), p1) else sp_sg B e bits N (k + 1) (sp_sa k c w) p1 := by
  rw [sp_sg]
  unfold sp_next
  by_cases c : p < e
  · rw [if_pos c, if_pos c]; rfl
  · rw [if_neg c, if_neg c]; rfl
section CSIG
variable {h : pm_H} {n b mm e p : Nat} {B : Nat → Nat}
abbrev cRS (h : pm_H) (q : Int32) : Int64 → Nat → Int64 × pm_H → Prop := fun v p' r => r = (v, rc h (Int32.ofNat p') 0 q)
theorem cs_sg (C : cS h n b mm B) (ie : pm_I h 19 2 = Int32.ofNat e) (he : e ≤ n) (q : Int32) {bits M : Nat} {x1 : Int32} (hx : ¬ 0 ≤ x1) (hb3 : (bits = 32 ∧ M = 5) ∨ (bits = 33 ∧ M = 5) ∨ (bits = 64 ∧ M = 10)) : ∀ (N k : Nat) (w : Int64) (p : Nat), 0 < N → k + N = M → p ≤ e → cs_Q (fun r : Int64 × pm_H => r.2) (fun h' => h' = h) (cRS h q) (pm_lim sX9_number (.inl (19, x1, Int32.ofNat bits, w, Int32.ofNat (7 * k), rc h (Int32.ofNat p) 0 q))) (sp_sg B e bits N k w p) := by
  have K : pm_kd h 19 = 9 := C.1
  have n4 : n ≤ 40960 := C.2.2.2.2.2.2.1
  have hb := C.2.2.2.2.2.2.2.2.2
  intro N
  induction N with
  | zero => intro k w p h0; omega
  | succ N ih =>
    intro k w p h0 hk hp
    have k9 : k ≤ 9 := by omega
    have kb : 7 * k < bits := by omega
    have b64 : bits ≤ 64 := by omega
    rw [sp_sg_n]
    refine v_w (aX9_number_0 ..) ?_
    unfold tX9_number_10
    refine v_f (show ¬ Int32.ofNat bits ≤ Int32.ofNat (7 * k) by rw [nn_le (by omega) (by omega)]; omega) (v_t K (v_t rfl (v_l (v_c (cs_next C ie he hp q) ?_ ?_))))
    · rintro ⟨r1, r2⟩ h' a f q' hf er hF
      subst hF
      have er : r2 = _ := er
      subst er
      exact z_t K (z_f (show ¬ pm_I (rc h' a f q') 19 3 = 0 from hf) (z_r (y_r (a := a) rfl rfl)))
    · intro c p1 r e1 er
      subst er
      obtain ⟨b1, b2, b3⟩ := sp_next_b e1
      have cl : c < 256 := by rw [b2]; exact hb p
      have S83 : (N = 0 → c < 128) → cs_Q (fun r : Int64 × pm_H => r.2) (fun h' => h' = h) (cRS h q) (pm_lim sX9_number (.inr (.inl (19, x1, Int32.ofNat bits, w, Int32.ofNat (7 * k), Int32.ofNat c, rc h (Int32.ofNat p1) 0 q)))) (if c < 128 then .inr (sp_sx k c (sp_sa k c w), p1) else sp_sg B e bits N (k + 1) (sp_sa k c w) p1) := by
        intro hN
        have e7 : 7 * k % 64 = 7 * k := Nat.mod_eq_of_lt (by omega)
        have ey : w ||| ((Int32.ofNat c &&& 127).toInt64 <<< ((Int32.ofNat (7 * k)).toInt64 &&& 63)) = sp_sa k c w := by
          rw [show (127 : Int32) = Int32.ofNat 127 from rfl, nn_m127, nn_t6 (by omega), nn_t6 (by omega), show (63 : Int64) = Int64.ofNat 63 from rfl, ll_m63, e7]; rfl
        have x7 : Int32.ofNat (7 * k) + 7 = Int32.ofNat (7 * k + 7) := nn_ad (7 * k) 7
        refine v_w (aX9_number_1 ..) ?_
        unfold tX9_number_83
        refine v_l ?_
        rw [ey]
        by_cases c8 : c < 128
        · refine v_f (show ¬ (128 : Int32) ≤ Int32.ofNat c by rw [show (128 : Int32) = Int32.ofNat 128 from rfl, nn_le (by decide) (by omega)]; omega) (v_f hx ?_)
          rw [if_pos c8]
          unfold sp_sx
          have c6 : (Int32.ofNat c &&& 64 = 0) ↔ c / 64 % 2 = 0 := c9_64 ⟨c, cl⟩
          by_cases d1 : c / 64 % 2 = 0
          · refine v_t (c6.mpr d1) (v_r (u_r ?_))
            rw [if_pos d1]
            by_cases d2 : 64 ≤ 7 * k + 7
            · rw [if_pos d2]
            · rw [if_neg d2]
          · refine v_f (fun z => d1 (c6.mp z)) ?_
            rw [if_neg d1]
            by_cases d2 : 64 ≤ 7 * k + 7
            · refine v_t (show (57 : Int32) ≤ Int32.ofNat (7 * k) by rw [show (57 : Int32) = Int32.ofNat 57 from rfl, nn_le (by decide) (by omega)]; omega) (v_r (u_r ?_))
              rw [if_pos d2]
            · refine v_f (show ¬ (57 : Int32) ≤ Int32.ofNat (7 * k) by rw [show (57 : Int32) = Int32.ofNat 57 from rfl, nn_le (by decide) (by omega)]; omega) (v_r (u_r ?_))
              have e8 : (7 * k + 7) % 64 = 7 * k + 7 := Nat.mod_eq_of_lt (by omega)
              rw [if_neg d2, x7, nn_t6 (by omega), show (63 : Int64) = Int64.ofNat 63 from rfl, ll_m63, e8]
        · refine v_t (show (128 : Int32) ≤ Int32.ofNat c by rw [show (128 : Int32) = Int32.ofNat 128 from rfl, nn_le (by decide) (by omega)]; omega) (v_l (v_n ?_))
          rw [if_neg c8, x7, show 7 * k + 7 = 7 * (k + 1) by omega]
          exact ih (k + 1) _ p1 (by omega) (by omega) (by omega)
      refine v_t K (v_t rfl ?_)
      by_cases N0 : N = 0
      · refine v_f (show ¬ Int32.ofNat (7 * k) + 7 < Int32.ofNat bits by rw [show Int32.ofNat (7 * k) + 7 = Int32.ofNat (7 * k + 7) from nn_ad (7 * k) 7, nn_lt (by omega) (by omega)]; omega) (v_f hx (v_n (v_w (aX9_number_2 ..) ?_)))
        unfold tX9_number_68
        have ev : fX9_endsNumber (Int32.ofNat c) (Int32.ofNat bits - Int32.ofNat (7 * k)) 1 = if sp_end bits k c = false then 0 else 1 := by
          rcases hb3 with ⟨z1, z2⟩ | ⟨z1, z2⟩ | ⟨z1, z2⟩
          · have k4 : k = 4 := by omega
            subst z1 k4
            exact c9_e4 ⟨c, cl⟩
          · have k4 : k = 4 := by omega
            subst z1 k4
            exact c9_e5 ⟨c, cl⟩
          · have k4 : k = 9 := by omega
            subst z1 k4
            exact c9_e1 ⟨c, cl⟩
        refine v_l ?_
        by_cases cc : sp_end bits k c = false
        · refine v_t (by rw [ev, if_pos cc]) (v_t K (v_b (cs_fail K _ _ _ _) (v_r ?_)))
          rw [if_pos ⟨N0, cc⟩]
          exact u_x (h' := h) (a := Int32.ofNat p1) (by decide) rfl rfl
        · refine v_f (by rw [ev, if_neg cc]; decide) (v_n ?_)
          rw [if_neg (fun z => cc z.2)]
          refine S83 (fun _ => ?_)
          unfold sp_end at cc
          by_cases c8 : c < 128
          · exact c8
          · exact absurd (by rw [decide_eq_false c8]; rfl) cc
      · refine v_t (show Int32.ofNat (7 * k) + 7 < Int32.ofNat bits by rw [show Int32.ofNat (7 * k) + 7 = Int32.ofNat (7 * k + 7) from nn_ad (7 * k) 7, nn_lt (by omega) (by omega)]; omega) (v_n ?_)
        rw [if_neg (fun z => N0 z.1)]
        exact S83 (fun z => absurd z N0)
theorem cs_s32 (C : cS h n b mm B) (ie : pm_I h 19 2 = Int32.ofNat e) (he : e ≤ n) (hp : p ≤ e) (q : Int32) : cs_Q (fun r : Int64 × pm_H => r.2) (fun h' => h' = h) (cRS h q) (fX9_number (rc h (Int32.ofNat p) 0 q) 19 (-32)) (sp_sig B e 32 p) := cs_sg (x1 := -32) C ie he q (by decide) (.inl ⟨rfl, rfl⟩) 5 0 0 p (by decide) (by decide) hp
theorem cs_s33 (C : cS h n b mm B) (ie : pm_I h 19 2 = Int32.ofNat e) (he : e ≤ n) (hp : p ≤ e) (q : Int32) : cs_Q (fun r : Int64 × pm_H => r.2) (fun h' => h' = h) (cRS h q) (fX9_number (rc h (Int32.ofNat p) 0 q) 19 (-33)) (sp_sig B e 33 p) := cs_sg (x1 := -33) C ie he q (by decide) (.inr (.inl ⟨rfl, rfl⟩)) 5 0 0 p (by decide) (by decide) hp
theorem cs_s64 (C : cS h n b mm B) (ie : pm_I h 19 2 = Int32.ofNat e) (he : e ≤ n) (hp : p ≤ e) (q : Int32) : cs_Q (fun r : Int64 × pm_H => r.2) (fun h' => h' = h) (cRS h q) (fX9_number (rc h (Int32.ofNat p) 0 q) 19 (-64)) (sp_sig B e 64 p) := cs_sg (x1 := -64) C ie he q (by decide) (.inr (.inr ⟨rfl, rfl⟩)) 10 0 0 p (by decide) (by decide) hp
/-- a byte up to k -/
theorem cs_nut (C : cS h n b mm B) (ie : pm_I h 19 2 = Int32.ofNat e) (he : e ≤ n) (hp : p ≤ e) (q : Int32) {k : Nat} (hk : k < 256) : cs_Q (fun r : Int32 × pm_H => r.2) (fun h' => h' = h) (cR32 h q) (fX9_nextUpTo (rc h (Int32.ofNat p) 0 q) 19 (Int32.ofNat k)) (sp_byte (fun v => decide (v ≤ k)) 7 B e p) := by
  have K : pm_kd h 19 = 9 := C.1
  have n4 : n ≤ 40960 := C.2.2.2.2.2.2.1
  have hb := C.2.2.2.2.2.2.2.2.2
  rw [sp_byte_n]
  unfold fX9_nextUpTo
  refine u_t K (u_c (cs_next C ie he hp q) ?_ ?_)
  · rintro ⟨r1, r2⟩ h' a f q' hf er hF
    subst hF
    have er : r2 = _ := er
    subst er
    exact y_i (fun _ => y_r (a := a) rfl rfl) (fun _ => y_t K (y_b (cd_fail K hf _ _ _ _) (y_r (a := a) rfl rfl)))
  · intro v p1 r e1 er
    subst er
    obtain ⟨b1, b2, b3⟩ := sp_next_b e1
    have vl : v < 256 := by rw [b2]; exact hb p
    by_cases c : v ≤ k
    · refine u_t (show Int32.ofNat v ≤ Int32.ofNat k by rw [nn_le (by omega) (by omega)]; exact c) ?_
      rw [if_pos (decide_eq_true c)]
      exact u_r rfl
    · refine u_f (show ¬ Int32.ofNat v ≤ Int32.ofNat k by rw [nn_le (by omega) (by omega)]; exact c) (u_t K (u_b (cs_fail K _ _ _ _) ?_))
      rw [if_neg (fun z => c (of_decide_eq_true z))]
      exact u_x (h' := h) (a := Int32.ofNat p1) (by decide) (congrArg (rc h (Int32.ofNat p1) 7) (c_m1 (by omega) (by omega))) rfl
theorem cd_nut (K : pm_kd h 19 = 9) {f : Int32} (hf : f ≠ 0) (a q k : Int32) : cd_Q (fun r : Int32 × pm_H => r.2) (fun h' => h' = h) f q (fX9_nextUpTo (rc h a f q) 19 k) := by
  unfold fX9_nextUpTo
  exact y_t K (y_b (cd_next K hf a q) (y_i (fun _ => y_r (a := a) rfl rfl) (fun _ => y_t K (y_b (cd_fail K hf _ _ _ _) (y_r (a := a) rfl rfl)))))
/-- a jump over x bytes -/
def sp_jmp (e x p : Nat) : sp_O Unit := if p + x ≤ e then .inr ((), p + x) else .inl (1, e)
theorem cs_skip (C : cS h n b mm B) (ie : pm_I h 19 2 = Int32.ofNat e) (he : e ≤ n) (hp : p ≤ e) (q : Int32) {x : Nat} (hx : x < 4294967296) : cs_Q (fun r : pm_H => r) (fun h' => h' = h) (fun _ p' r => r = rc h (Int32.ofNat p') 0 q) (fX9_skip (rc h (Int32.ofNat p) 0 q) 19 (Int64.ofNat x)) (sp_jmp e x p) := by
  have K : pm_kd h 19 = 9 := C.1
  have n4 : n ≤ 40960 := C.2.2.2.2.2.2.1
  unfold fX9_skip sp_jmp
  have cmp : (Int64.ofNat x ≤ ((pm_I (rc h (Int32.ofNat p) 0 q) 19 2) - (pm_I (rc h (Int32.ofNat p) 0 q) 19 1)).toInt64) = (p + x ≤ e) := by
    rw [show pm_I (rc h (Int32.ofNat p) 0 q) 19 2 = Int32.ofNat e from ie, show pm_I (rc h (Int32.ofNat p) 0 q) 19 1 = Int32.ofNat p from rfl, nn_sb hp, nn_t6 (by omega), ll_le (by omega) (by omega)]
    exact propext ⟨fun z => by omega, fun z => by omega⟩
  refine u_t K (u_t rfl ?_)
  by_cases c : p + x ≤ e
  · refine u_t (by rw [cmp]; exact c) (u_t rfl (u_l ?_))
    rw [if_pos c, rc_s1]
    refine u_r (congrArg (fun z => rc h z 0 q) ?_)
    rw [ll_t3]
    exact nn_ad p x
  · refine u_f (by rw [cmp]; exact c) (u_b (cs_fail K _ _ _ _) (u_t K (u_f (show ¬ (1 : Int32) = 0 by decide) ?_)))
    rw [if_neg c]
    exact u_x (h' := h) (a := Int32.ofNat p) (by decide) (congrArg (rc h (Int32.ofNat p) 1) ie) rfl
theorem cd_skip (K : pm_kd h 19 = 9) {f : Int32} (hf : f ≠ 0) (a q : Int32) (x : Int64) : fX9_skip (rc h a f q) 19 x = some (rc h a f q) := by
  unfold fX9_skip
  have z : ¬ pm_I (rc h a f q) 19 3 = 0 := hf
  rw [if_pos (show pm_kd (rc h a f q) 19 = 9 from K), if_neg z, if_neg z]
end CSIG
