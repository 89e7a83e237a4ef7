/-! THE CLASS READS: a block's type -/
theorem c9_blk : ∀ c : Fin 128, (((sp_sx 0 c.val (sp_sa 0 c.val 0) = -64 ∨ ¬ fX9_isValue ((sp_sx 0 c.val (sp_sa 0 c.val 0)).toInt32 + 128) = 0) ↔ (c.val = 64 ∨ sp_isT c.val = true)) ∧ ((c.val = 64 ∨ sp_isT c.val = true) → sp_sx 0 c.val (sp_sa 0 c.val 0) = Int64.ofInt ((c.val : Int) - 128))) := by decide +kernel
theorem c9_tl : ∀ c : Fin 256, (c.val = 64 ∨ sp_isT c.val = true) → c.val < 128 := by decide +kernel
theorem sp_blk_n {B : Nat → Nat} (hb : ∀ i, B i < 256) (e p : Nat) : sp_blk B e p = sp_b (sp_sig B e 33 p) fun v p1 => if (p1 = p + 1 ∧ (v = -64 ∨ ¬ fX9_isValue (v.toInt32 + 128) = 0)) ∨ 0 ≤ v then .inr (v, p1) else .inl (8, p) := by
  have sg : sp_sig B e 33 p = sp_b (sp_next B e p) fun c p1 => if c < 128 then .inr (sp_sx 0 c (sp_sa 0 c 0), p1) else sp_sg B e 33 4 1 (sp_sa 0 c 0) p1 := by
    unfold sp_sig
    rw [if_neg (show ¬ 33 = 64 by decide), sp_sg_n]
    unfold sp_next
    by_cases c : p < e
    · rw [if_pos c]
      show (if 4 = 0 ∧ sp_end 33 0 (B p) = false then (.inl (4, p) : sp_O Int64) else if B p < 128 then .inr (sp_sx 0 (B p) (sp_sa 0 (B p) 0), p + 1) else sp_sg B e 33 4 1 (sp_sa 0 (B p) 0) (p + 1)) = _
      rw [if_neg (fun z => absurd z.1 (by decide))]
      rfl
    · rw [if_neg c]; rfl
  unfold sp_blk
  by_cases hl : p < e
  · have nx : sp_next B e p = .inr (B p, p + 1) := by unfold sp_next; rw [if_pos hl]
    rw [nx] at sg
    have sg : sp_sig B e 33 p = if B p < 128 then .inr (sp_sx 0 (B p) (sp_sa 0 (B p) 0), p + 1) else sp_sg B e 33 4 1 (sp_sa 0 (B p) 0) (p + 1) := sg
    by_cases c8 : B p < 128
    · rw [if_pos c8] at sg
      obtain ⟨b1, b2⟩ := c9_blk ⟨B p, c8⟩
      by_cases cs : B p = 64 ∨ sp_isT (B p) = true
      · rw [if_pos ⟨hl, cs⟩, sg]
        show _ = (if (p + 1 = p + 1 ∧ (sp_sx 0 (B p) (sp_sa 0 (B p) 0) = -64 ∨ ¬ fX9_isValue ((sp_sx 0 (B p) (sp_sa 0 (B p) 0)).toInt32 + 128) = 0)) ∨ 0 ≤ sp_sx 0 (B p) (sp_sa 0 (B p) 0) then (.inr (sp_sx 0 (B p) (sp_sa 0 (B p) 0), p + 1) : sp_O Int64) else .inl (8, p))
        rw [if_pos (.inl ⟨rfl, b1.mpr cs⟩), ← b2 cs]
      · rw [if_neg (fun z => cs z.2), sg]
        show (if 0 ≤ sp_sx 0 (B p) (sp_sa 0 (B p) 0) then _ else _) = (if (p + 1 = p + 1 ∧ (sp_sx 0 (B p) (sp_sa 0 (B p) 0) = -64 ∨ ¬ fX9_isValue ((sp_sx 0 (B p) (sp_sa 0 (B p) 0)).toInt32 + 128) = 0)) ∨ 0 ≤ sp_sx 0 (B p) (sp_sa 0 (B p) 0) then _ else _)
        by_cases c0 : 0 ≤ sp_sx 0 (B p) (sp_sa 0 (B p) 0)
        · rw [if_pos c0, if_pos (.inr c0)]
        · rw [if_neg c0, if_neg (fun z => z.elim (fun z => cs (b1.mp z.2)) c0)]
    · rw [if_neg c8] at sg
      rw [if_neg (fun z => c8 (c9_tl ⟨B p, hb p⟩ z.2))]
      cases hs : sp_sig B e 33 p with
      | inl z => rfl
      | inr r =>
        rw [sg] at hs
        have := (sp_sg_b (by omega) hs).2.2 (by decide)
        show (if 0 ≤ r.1 then _ else _) = (if (r.2 = p + 1 ∧ (r.1 = -64 ∨ ¬ fX9_isValue (r.1.toInt32 + 128) = 0)) ∨ 0 ≤ r.1 then _ else _)
        by_cases c0 : 0 ≤ r.1
        · rw [if_pos c0, if_pos (.inr c0)]
        · rw [if_neg c0, if_neg (fun z => z.elim (fun z => by omega) c0)]
  · have nx : sp_next B e p = .inl (1, e) := by unfold sp_next; rw [if_neg hl]
    rw [nx] at sg
    rw [if_neg (fun z => hl z.1), sg]
    rfl
section CBLK
variable {h : pm_H} {n b mm e p : Nat} {B : Nat → Nat}
theorem cs_blk (C : cS h n b mm B) (ie : pm_I h 19 2 = Int32.ofNat e) (he : e ≤ n) (hp : p ≤ e) (q : Int32) : cs_Q (fun r : Int64 × pm_H => r.2) (fun h' => h' = h) (cRS h q) (fX9_blockType (rc h (Int32.ofNat p) 0 q) 19) (sp_blk B e p) := by
  have K : pm_kd h 19 = 9 := C.1
  have n4 : n ≤ 40960 := C.2.2.2.2.2.2.1
  have hb := C.2.2.2.2.2.2.2.2.2
  rw [sp_blk_n hb]
  unfold fX9_blockType
  refine u_t K (u_l (u_c (cs_s33 C ie he hp q) ?_ ?_))
  · rintro ⟨r1, r2⟩ h' a f q' hf er hF
    subst hF
    have er : r2 = _ := er
    subst er
    have D : ∀ (x : Int32) (v : Int64) (s : Int32), cd_Q (fun r : Int64 × pm_H => r.2) (fun h => h = h') f q' (fX9_blockType_b47 (rc h' a f q') 19 x v s) := by
      intro x v s
      unfold fX9_blockType_b47
      exact y_i (fun _ => y_r (a := a) rfl rfl) (fun _ => y_i (fun _ => y_t K (y_b (cd_fail K hf _ _ _ _) (y_r (a := a) rfl rfl))) (fun _ => y_r (a := a) rfl rfl))
    exact y_t K (y_i (fun _ => y_i (fun _ => D _ _ 1) (fun _ => y_l (y_i (fun _ => D _ _ 0) (fun _ => D _ _ 1)))) (fun _ => D _ _ 0))
  · intro v p1 r e1 er
    subst er
    have pb := sp_sg_b hp (show sp_sg B e 33 5 0 0 p = .inr (v, p1) from e1)
    have b1 : p ≤ p1 := pb.1
    have b2 : p1 ≤ e := pb.2.1
    have c1 : (pm_I (rc h (Int32.ofNat p1) 0 q) 19 1 - pm_I (rc h (Int32.ofNat p) 0 q) 19 1 = 1) = (p1 = p + 1) := by
      show (Int32.ofNat p1 - Int32.ofNat p = Int32.ofNat 1) = _
      rw [nn_sb b1, nn_eq (by omega) (by decide)]
      exact propext ⟨fun z => by omega, fun z => by omega⟩
    have G1 : ∀ x, cs_Q (fun r : Int64 × pm_H => r.2) (fun h' => h' = h) (cRS h q) (fX9_blockType_b47 (rc h (Int32.ofNat p1) 0 q) 19 x v 1) (.inr (v, p1)) := by
      intro x
      unfold fX9_blockType_b47
      by_cases c0 : 0 ≤ v
      · exact u_t c0 (u_r rfl)
      · exact u_f c0 (u_f (by decide) (u_r rfl))
    have G0 : cs_Q (fun r : Int64 × pm_H => r.2) (fun h' => h' = h) (cRS h q) (fX9_blockType_b47 (rc h (Int32.ofNat p1) 0 q) 19 (pm_I (rc h (Int32.ofNat p) 0 q) 19 1) v 0) (if 0 ≤ v then .inr (v, p1) else .inl (8, p)) := by
      unfold fX9_blockType_b47
      by_cases c0 : 0 ≤ v
      · refine u_t c0 ?_
        rw [if_pos c0]
        exact u_r rfl
      · refine u_f c0 (u_t rfl (u_t K (u_b (cs_fail K _ _ _ _) ?_)))
        rw [if_neg c0]
        exact u_x (h' := h) (a := Int32.ofNat p1) (by decide) rfl rfl
    have eG0 : ¬ (p1 = p + 1 ∧ (v = -64 ∨ ¬ fX9_isValue (v.toInt32 + 128) = 0)) → (if (p1 = p + 1 ∧ (v = -64 ∨ ¬ fX9_isValue (v.toInt32 + 128) = 0)) ∨ 0 ≤ v then (.inr (v, p1) : sp_O Int64) else .inl (8, p)) = if 0 ≤ v then .inr (v, p1) else .inl (8, p) := by
      intro hz
      by_cases c0 : 0 ≤ v
      · rw [if_pos c0, if_pos (.inr c0)]
      · rw [if_neg c0, if_neg (fun z => z.elim hz c0)]
    refine u_t K ?_
    by_cases d1 : p1 = p + 1
    · refine u_t (by rw [c1]; exact d1) ?_
      by_cases d2 : v = -64
      · refine u_t d2 ?_
        rw [if_pos (.inl ⟨d1, .inl d2⟩)]
        exact G1 _
      · refine u_f d2 (u_l ?_)
        by_cases d3 : fX9_isValue (v.toInt32 + 128) = 0
        · refine u_t d3 ?_
          rw [eG0 (fun z => z.2.elim d2 (fun y => y d3))]
          exact G0
        · refine u_f d3 ?_
          rw [if_pos (.inl ⟨d1, .inr d3⟩)]
          exact G1 _
    · refine u_f (by rw [c1]; exact d1) ?_
      rw [eG0 (fun z => d1 z.1)]
      exact G0
theorem cd_blk (K : pm_kd h 19 = 9) {f : Int32} (hf : f ≠ 0) (a q : Int32) : cd_Q (fun r : Int64 × pm_H => r.2) (fun h' => h' = h) f q (fX9_blockType (rc h a f q) 19) := by
  have D : ∀ (x : Int32) (v : Int64) (s : Int32), cd_Q (fun r : Int64 × pm_H => r.2) (fun h' => h' = h) f q (fX9_blockType_b47 (rc h a f q) 19 x v s) := by
    intro x v s
    unfold fX9_blockType_b47
    exact y_i (fun _ => y_r (a := a) rfl rfl) (fun _ => y_i (fun _ => y_t K (y_b (cd_fail K hf _ _ _ _) (y_r (a := a) rfl rfl))) (fun _ => y_r (a := a) rfl rfl))
  unfold fX9_blockType
  exact y_t K (y_l (y_b (cd_num K hf a q (-33) (by decide)) (y_t K (y_i (fun _ => y_i (fun _ => D _ _ 1) (fun _ => y_l (y_i (fun _ => D _ _ 0) (fun _ => D _ _ 1)))) (fun _ => D _ _ 0)))))
end CBLK
