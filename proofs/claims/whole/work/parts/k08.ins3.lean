/-! THE CLASS READS: an instruction, whole -/
/-- an instruction with what stands behind it: number, two numbers, beyond the limits of a body -/
def sp_in (B : Nat → Nat) (e : Nat) (d : Bool) (p : Nat) : sp_O sp_I := sp_b (sp_next B e p) fun c p1 => if c = 5 ∨ c = 11 then .inr ((c, 0, 0, false), p1) else if 2 ≤ c ∧ c ≤ 4 then sp_b (sp_blk B e p1) fun t p2 => .inr ((c, t, 0, false), p2) else sp_ops B e d c p p1
theorem k_cls : ∀ c : Fin 256, ((c.val < 2 ∨ c.val = 15 ∨ c.val = 26 ∨ c.val = 27 ∨ (69 ≤ c.val ∧ c.val ≤ 196) ∨ c.val = 209) → sp_cls c.val = 0) ∧ ((c.val = 12 ∨ c.val = 13 ∨ c.val = 16 ∨ (32 ≤ c.val ∧ c.val ≤ 38) ∨ c.val = 210) → sp_cls c.val = 1) ∧ (((40 ≤ c.val ∧ c.val ≤ 62) ∨ c.val = 17) → sp_cls c.val = 2) := by decide +kernel
section CINS3
theorem u_id {α ρ : Type} {w : ρ → pm_H} {F : pm_H → Prop} {R : α → Nat → ρ → Prop} {x : Option ρ} {o : sp_O α} (Q : cs_Q w F R x o) : cs_Q w F R (x.bind fun v => some v) o := by
  have : (x.bind fun v => some v) = x := by cases x <;> rfl
  rw [this]; exact Q
variable {h : pm_H} {n b mm e p : Nat} {B : Nat → Nat} {o oa l : Int32} {x y : Int64}
theorem cd_123 (K : pm_kd h 19 = 9) (rm0 : pm_R h 19 0 = some mm) (km : pm_kd h mm = 7) {f : Int32} (hf : f ≠ 0) (a q : Int32) : cd_Q wH (iF h) f q (fX9_instruction_b123 (rc (ri h o oa l x y) a f q) 19) := by
  have Y : ∀ x y a, cd_Q wH (iF h) f q (some (rc (ri h o oa l x y) a f q)) := fun x y a => y_r (a := a) rfl ⟨_, _, _, _, _, rfl⟩
  have S : ∀ (v : Int64) (a : Int32), cd_Q wH (iF h) f q (if pm_kd (rc (ri h o oa l x y) a f q) 19 = 9 then some (pm_setL (rc (ri h o oa l x y) a f q) 19 8 v) else none) := fun v a => y_t K (by rw [ci_8]; exact Y _ _ _)
  have NU : cd_Q wH (iF h) f q ((fX9_number (rc (ri h o oa l x y) a f q) 19 32).bind fun v => if pm_kd v.2 19 = 9 then some (pm_setL v.2 19 8 v.1) else none) := y_b (cd_num (h := ri h _ _ _ _ _) K hf a q 32 (by decide)) (S _ _)
  have BL : cd_Q wH (iF h) f q ((fX9_blockType (rc (ri h o oa l x y) a f q) 19).bind fun v => if pm_kd v.2 19 = 9 then some (pm_setL v.2 19 8 v.1) else none) := y_p (cd_blk (h := ri h o oa l x y) K hf a q) fun r1 a => S _ _
  have NT : cd_Q wH (iF h) f q ((fX9_nextUpTo (rc (ri h o oa l x y) a f q) 19 0).bind fun v => some v.2) := y_p (cd_nut (h := ri h o oa l x y) K hf a q 0) fun r1 a => Y _ _ _
  unfold fX9_instruction_b123
  refine y_t K (y_l ?_)

  exact y_i (fun _ => Y _ _ _) (fun _ => y_i (fun _ => Y _ _ _) (fun _ => y_i (fun _ => BL) (fun _ => y_i (fun _ => BL) (fun _ => y_i (fun _ => BL) (fun _ => y_i (fun _ => Y _ _ _) (fun _ => y_i (fun _ => Y _ _ _) (fun _ => y_i (fun _ => NU) (fun _ => y_i (fun _ => NU) (fun _ => y_i (fun _ => y_c (cd_labels K hf a q) (fun r h2 a2 er hF => y_r er hF)) (fun _ => y_i (fun _ => Y _ _ _) (fun _ => y_i (fun _ => NU) (fun _ => y_i (fun _ => Y _ _ _) (fun _ => y_i (fun _ => Y _ _ _) (fun _ => y_i (fun _ => y_c (cd_sel K hf a q) (fun r h2 a2 er hF => y_r er hF)) (fun _ => y_i (fun _ => NT) (fun _ => y_i (fun _ => NT) (fun _ => y_i (fun _ => y_b (cd_num (h := ri h _ _ _ _ _) K hf a q (-32) (by decide)) (y_l (S _ _))) (fun _ => y_i (fun _ => y_b (cd_num (h := ri h _ _ _ _ _) K hf a q (-64) (by decide)) (S _ _)) (fun _ => y_i (fun _ => y_p (cd_low (h := ri h o oa l x y) K hf a q (N := 4) (by decide)) (fun r1 a => S _ _)) (fun _ => y_i (fun _ => y_p (cd_low (h := ri h o oa l x y) K hf a q (N := 8) (by decide)) (fun r1 a => S _ _)) (fun _ => y_i (fun _ => y_p (cd_rt (h := ri h o oa l x y) K hf a q) (fun r1 a => S _ _)) (fun _ => y_i (fun _ => Y _ _ _) (fun _ => y_i (fun _ => NU) (fun _ => y_i (fun _ => y_c (cd_long K rm0 km hf a q) (fun r h2 a2 er hF => y_r er hF)) (fun _ => y_b (cd_fail (h := ri h _ _ _ _ _) K hf _ _ _ _) (Y _ _ _))))))))))))))))))))))))))

theorem cd_b64 (K : pm_kd h 19 = 9) (rm0 : pm_R h 19 0 = some mm) (km : pm_kd h mm = 7) {f : Int32} (hf : f ≠ 0) (a q : Int32) : cd_Q wH (iF h) f q (fX9_instruction_b64 (rc (ri h o oa l x y) a f q) 19) := by
  have Y : ∀ x y a, cd_Q wH (iF h) f q (some (rc (ri h o oa l x y) a f q)) := fun x y a => y_r (a := a) rfl ⟨_, _, _, _, _, rfl⟩
  unfold fX9_instruction_b64
  refine y_t K (y_i (fun _ => y_b (cd_num (h := ri h _ _ _ _ _) K hf a q 32 (by decide)) (y_t K ?_)) (fun _ => y_i (fun _ => cd_123 K rm0 km hf _ _) (fun _ => y_i (fun _ => cd_123 K rm0 km hf _ _) (fun _ => y_b (cd_num (h := ri h _ _ _ _ _) K hf a q 32 (by decide)) (y_t K ?_)))))
  · rw [ci_8]
    refine y_b (cd_num (h := ri h _ _ _ _ _) K hf a q 32 (by decide)) (y_t K ?_)
    rw [ci_9]
    exact Y _ _ _
  · rw [ci_8]; exact Y _ _ _
theorem cd_b46 (K : pm_kd h 19 = 9) (rm0 : pm_R h 19 0 = some mm) (km : pm_kd h mm = 7) {f : Int32} (hf : f ≠ 0) (a q : Int32) : cd_Q wH (iF h) f q (fX9_instruction_b46 (rc (ri h o oa l x y) a f q) 19) := by
  have Y : ∀ x y a, cd_Q wH (iF h) f q (some (rc (ri h o oa l x y) a f q)) := fun x y a => y_r (a := a) rfl ⟨_, _, _, _, _, rfl⟩
  unfold fX9_instruction_b46
  refine y_t K (y_i (fun _ => cd_b64 K rm0 km hf _ _) (fun _ => y_i (fun _ => y_b (cd_num (h := ri h _ _ _ _ _) K hf a q 32 (by decide)) (y_t K ?_)) (fun _ => cd_b64 K rm0 km hf _ _)))
  rw [ci_8]
  refine y_b (cd_num (h := ri h _ _ _ _ _) K hf a q 32 (by decide)) (y_t K ?_)
  rw [ci_9]
  exact Y _ _ _
theorem cd_ins (K : pm_kd h 19 = 9) (rm0 : pm_R h 19 0 = some mm) (km : pm_kd h mm = 7) {f : Int32} (hf : f ≠ 0) (a q : Int32) : cd_Q wH (iF h) f q (fX9_instruction (rc (ri h o oa l x y) a f q) 19) := by
  unfold fX9_instruction
  refine y_t K (y_l ?_)
  rw [ci_7]
  refine y_b (cd_next (h := ri h _ _ _ _ _) K hf _ _) (y_t K ?_)
  rw [ci_6, ci_8, ci_9]
  exact y_i (fun _ => cd_b46 K rm0 km hf _ _) (fun _ => y_i (fun _ => cd_b46 K rm0 km hf _ _) (fun _ => y_r (a := a) rfl ⟨_, _, _, _, _, rfl⟩))
theorem cs_123 {ob d : Bool} (C : cS h n b mm B) (ie : pm_I h 19 2 = Int32.ofNat e) (he : e ≤ n) (hp : p ≤ e) (ib : (pm_I h 19 16 = 0) = (ob = false)) (dt : (0 ≤ pm_L h mm 14) = (d = true)) (c p0 : Nat) (hc : c < 256) (c17 : c ≠ 17) (c38 : c < 32 ∨ 38 < c) (c62 : c < 40 ∨ 62 < c) (c196 : c < 69 ∨ 196 < c) (q : Int32) : cs_Q wH (iF h) (cRI h (Int32.ofNat p0) l ob q) (fX9_instruction_b123 (rc (ri h (Int32.ofNat c) (Int32.ofNat p0) l 0 0) (Int32.ofNat p) 0 q) 19) (if c = 5 ∨ c = 11 then .inr ((c, 0, 0, false), p) else if 2 ≤ c ∧ c ≤ 4 then sp_b (sp_blk B e p) fun t p2 => .inr ((c, t, 0, false), p2) else sp_ops B e d c p0 p) := by
  have C' := C
  obtain ⟨K, rm0, km, -⟩ := C
  have RR : ∀ (x y : Int64) (p2 : Nat), cs_Q wH (iF h) (cRI h (Int32.ofNat p0) l ob q) (some (rc (ri h (Int32.ofNat c) (Int32.ofNat p0) l x y) (Int32.ofNat p2) 0 q)) (.inr ((c, x, y, false), p2)) := fun x y p2 => u_r rfl
  have RS : ∀ (x : Int64) (p2 : Nat), cs_Q wH (iF h) (cRI h (Int32.ofNat p0) l ob q) (if pm_kd (rc (ri h (Int32.ofNat c) (Int32.ofNat p0) l 0 0) (Int32.ofNat p2) 0 q) 19 = 9 then some (pm_setL (rc (ri h (Int32.ofNat c) (Int32.ofNat p0) l 0 0) (Int32.ofNat p2) 0 q) 19 8 x) else none) (.inr ((c, x, 0, false), p2)) := fun x p2 => u_t K (by rw [ci_8]; exact RR _ _ _)
  have DS : ∀ (v : Int64) (a f q : Int32), cd_Q wH (iF h) f q (if pm_kd (rc (ri h (Int32.ofNat c) (Int32.ofNat p0) l 0 0) a f q) 19 = 9 then some (pm_setL (rc (ri h (Int32.ofNat c) (Int32.ofNat p0) l 0 0) a f q) 19 8 v) else none) := fun v a f q => y_t K (by rw [ci_8]; exact y_r (a := a) rfl ⟨_, _, _, _, _, rfl⟩)
  have CI := cS_ri (o := Int32.ofNat c) (oa := Int32.ofNat p0) (l := l) (x := 0) (y := 0) C'
  have NU : cs_Q wH (iF h) (cRI h (Int32.ofNat p0) l ob q) ((fX9_number (rc (ri h (Int32.ofNat c) (Int32.ofNat p0) l 0 0) (Int32.ofNat p) 0 q) 19 32).bind fun v => if pm_kd v.2 19 = 9 then some (pm_setL v.2 19 8 v.1) else none) (sp_b (sp_num B e p) fun x p1 => .inr ((c, Int64.ofNat x, 0, false), p1)) := u_p (cs_num CI ie he hp q) (fun r1 a f q hf => DS _ _ _ _) (fun v p1 r _ er => by subst er; exact RS _ _)
  have BL : cs_Q wH (iF h) (cRI h (Int32.ofNat p0) l ob q) ((fX9_blockType (rc (ri h (Int32.ofNat c) (Int32.ofNat p0) l 0 0) (Int32.ofNat p) 0 q) 19).bind fun v => if pm_kd v.2 19 = 9 then some (pm_setL v.2 19 8 v.1) else none) (sp_b (sp_blk B e p) fun t p1 => .inr ((c, t, 0, false), p1)) := u_p (cs_blk CI ie he hp q) (fun r1 a f q hf => DS _ _ _ _) (fun v p1 r _ er => by subst er; exact RS _ _)
  have NT : cs_Q wH (iF h) (cRI h (Int32.ofNat p0) l ob q) ((fX9_nextUpTo (rc (ri h (Int32.ofNat c) (Int32.ofNat p0) l 0 0) (Int32.ofNat p) 0 q) 19 0).bind fun v => some v.2) (sp_b (sp_byte (fun c => decide (c ≤ 0)) 7 B e p) fun _ p1 => .inr ((c, 0, 0, false), p1)) := u_p (cs_nut CI ie he hp q (k := 0) (by decide)) (fun r1 a f q hf => y_r (a := a) rfl ⟨_, _, _, _, _, rfl⟩) (fun v p1 r _ er => by subst er; exact RR _ _ _)
  unfold fX9_instruction_b123
  refine u_t K (u_l ?_)
  rw [show pm_I (rc (ri h (Int32.ofNat c) (Int32.ofNat p0) l 0 0) (Int32.ofNat p) 0 q) 19 6 = Int32.ofNat c from rfl]
  have N : ∀ k, k < 1000 → c ≠ k → ¬ Int32.ofNat c = Int32.ofNat k := fun k hk z => by rw [nn_eq (by omega) (by omega)]; exact z

  by_cases c0_ : c = 0
  · subst c0_
    show cs_Q _ _ _ _ (.inr ((0, 0, 0, false), p))
    exact u_t (by decide) (RR _ _ _)
  by_cases c1_ : c = 1
  · subst c1_
    show cs_Q _ _ _ _ (.inr ((1, 0, 0, false), p))
    exact u_f (by decide) (u_t (by decide) (RR _ _ _))
  by_cases c2_ : c = 2
  · subst c2_
    show cs_Q _ _ _ _ (sp_b (sp_blk B e p) fun t p2 => .inr ((2, t, 0, false), p2))
    exact u_f (by decide) (u_f (by decide) (u_t (by decide) (BL)))
  by_cases c3_ : c = 3
  · subst c3_
    show cs_Q _ _ _ _ (sp_b (sp_blk B e p) fun t p2 => .inr ((3, t, 0, false), p2))
    exact u_f (by decide) (u_f (by decide) (u_f (by decide) (u_t (by decide) (BL))))
  by_cases c4_ : c = 4
  · subst c4_
    show cs_Q _ _ _ _ (sp_b (sp_blk B e p) fun t p2 => .inr ((4, t, 0, false), p2))
    exact u_f (by decide) (u_f (by decide) (u_f (by decide) (u_f (by decide) (u_t (by decide) (BL)))))
  by_cases c5_ : c = 5
  · subst c5_
    show cs_Q _ _ _ _ (.inr ((5, 0, 0, false), p))
    exact u_f (by decide) (u_f (by decide) (u_f (by decide) (u_f (by decide) (u_f (by decide) (u_t (by decide) (RR _ _ _))))))
  by_cases c11_ : c = 11
  · subst c11_
    show cs_Q _ _ _ _ (.inr ((11, 0, 0, false), p))
    exact u_f (by decide) (u_f (by decide) (u_f (by decide) (u_f (by decide) (u_f (by decide) (u_f (by decide) (u_t (by decide) (RR _ _ _)))))))
  by_cases c12_ : c = 12
  · subst c12_
    show cs_Q _ _ _ _ (sp_b (sp_num B e p) fun x p1 => .inr ((12, Int64.ofNat x, 0, false), p1))
    exact u_f (by decide) (u_f (by decide) (u_f (by decide) (u_f (by decide) (u_f (by decide) (u_f (by decide) (u_f (by decide) (u_t (by decide) (NU))))))))
  by_cases c13_ : c = 13
  · subst c13_
    show cs_Q _ _ _ _ (sp_b (sp_num B e p) fun x p1 => .inr ((13, Int64.ofNat x, 0, false), p1))
    exact u_f (by decide) (u_f (by decide) (u_f (by decide) (u_f (by decide) (u_f (by decide) (u_f (by decide) (u_f (by decide) (u_f (by decide) (u_t (by decide) (NU)))))))))
  by_cases c14_ : c = 14
  · subst c14_
    show cs_Q _ _ _ _ (sp_b (sp_num B e p) fun x p1 => sp_b (sp_nums B e (x + 1) p1) fun _ p2 => .inr ((14, Int64.ofNat x, Int64.ofNat p1, decide (200 < x)), p2))
    refine u_f (by decide) (u_f (by decide) (u_f (by decide) (u_f (by decide) (u_f (by decide) (u_f (by decide) (u_f (by decide) (u_f (by decide) (u_f (by decide) (u_t (by decide) (?_))))))))))
    exact u_id (cs_labels C' ie he hp ib 14 q)
  by_cases c15_ : c = 15
  · subst c15_
    show cs_Q _ _ _ _ (.inr ((15, 0, 0, false), p))
    exact u_f (by decide) (u_f (by decide) (u_f (by decide) (u_f (by decide) (u_f (by decide) (u_f (by decide) (u_f (by decide) (u_f (by decide) (u_f (by decide) (u_f (by decide) (u_t (by decide) (RR _ _ _)))))))))))
  by_cases c16_ : c = 16
  · subst c16_
    show cs_Q _ _ _ _ (sp_b (sp_num B e p) fun x p1 => .inr ((16, Int64.ofNat x, 0, false), p1))
    exact u_f (by decide) (u_f (by decide) (u_f (by decide) (u_f (by decide) (u_f (by decide) (u_f (by decide) (u_f (by decide) (u_f (by decide) (u_f (by decide) (u_f (by decide) (u_f (by decide) (u_t (by decide) (NU))))))))))))
  by_cases c26_ : c = 26
  · subst c26_
    show cs_Q _ _ _ _ (.inr ((26, 0, 0, false), p))
    exact u_f (by decide) (u_f (by decide) (u_f (by decide) (u_f (by decide) (u_f (by decide) (u_f (by decide) (u_f (by decide) (u_f (by decide) (u_f (by decide) (u_f (by decide) (u_f (by decide) (u_f (by decide) (u_t (by decide) (RR _ _ _)))))))))))))
  by_cases c27_ : c = 27
  · subst c27_
    show cs_Q _ _ _ _ (.inr ((27, 0, 0, false), p))
    exact u_f (by decide) (u_f (by decide) (u_f (by decide) (u_f (by decide) (u_f (by decide) (u_f (by decide) (u_f (by decide) (u_f (by decide) (u_f (by decide) (u_f (by decide) (u_f (by decide) (u_f (by decide) (u_f (by decide) (u_t (by decide) (RR _ _ _))))))))))))))
  by_cases c28_ : c = 28
  · subst c28_
    show cs_Q _ _ _ _ (sp_b (sp_num B e p) fun x p1 => sp_b (sp_tys B e x 0 p1) fun t p2 => .inr ((28, Int64.ofNat x, Int64.ofNat t, decide (x ≠ 1)), p2))
    refine u_f (by decide) (u_f (by decide) (u_f (by decide) (u_f (by decide) (u_f (by decide) (u_f (by decide) (u_f (by decide) (u_f (by decide) (u_f (by decide) (u_f (by decide) (u_f (by decide) (u_f (by decide) (u_f (by decide) (u_f (by decide) (u_t (by decide) (?_)))))))))))))))
    exact u_id (cs_sel C' ie he hp ib 28 q)
  by_cases c63_ : c = 63
  · subst c63_
    show cs_Q _ _ _ _ (sp_b (sp_byte (fun c => decide (c ≤ 0)) 7 B e p) fun _ p1 => .inr ((63, 0, 0, false), p1))
    exact u_f (by decide) (u_f (by decide) (u_f (by decide) (u_f (by decide) (u_f (by decide) (u_f (by decide) (u_f (by decide) (u_f (by decide) (u_f (by decide) (u_f (by decide) (u_f (by decide) (u_f (by decide) (u_f (by decide) (u_f (by decide) (u_f (by decide) (u_t (by decide) (NT))))))))))))))))
  by_cases c64_ : c = 64
  · subst c64_
    show cs_Q _ _ _ _ (sp_b (sp_byte (fun c => decide (c ≤ 0)) 7 B e p) fun _ p1 => .inr ((64, 0, 0, false), p1))
    exact u_f (by decide) (u_f (by decide) (u_f (by decide) (u_f (by decide) (u_f (by decide) (u_f (by decide) (u_f (by decide) (u_f (by decide) (u_f (by decide) (u_f (by decide) (u_f (by decide) (u_f (by decide) (u_f (by decide) (u_f (by decide) (u_f (by decide) (u_f (by decide) (u_t (by decide) (NT)))))))))))))))))
  by_cases c65_ : c = 65
  · subst c65_
    show cs_Q _ _ _ _ (sp_b (sp_sig B e 32 p) fun x p1 => .inr ((65, x &&& 4294967295, 0, false), p1))
    exact u_f (by decide) (u_f (by decide) (u_f (by decide) (u_f (by decide) (u_f (by decide) (u_f (by decide) (u_f (by decide) (u_f (by decide) (u_f (by decide) (u_f (by decide) (u_f (by decide) (u_f (by decide) (u_f (by decide) (u_f (by decide) (u_f (by decide) (u_f (by decide) (u_f (by decide) (u_t (by decide) (u_p (cs_s32 CI ie he hp q) (fun r1 a f q hf => y_l (DS _ _ _ _)) (fun v p1 r _ er => by subst er; exact u_l (RS _ _))))))))))))))))))))
  by_cases c66_ : c = 66
  · subst c66_
    show cs_Q _ _ _ _ (sp_b (sp_sig B e 64 p) fun x p1 => .inr ((66, x, 0, false), p1))
    exact u_f (by decide) (u_f (by decide) (u_f (by decide) (u_f (by decide) (u_f (by decide) (u_f (by decide) (u_f (by decide) (u_f (by decide) (u_f (by decide) (u_f (by decide) (u_f (by decide) (u_f (by decide) (u_f (by decide) (u_f (by decide) (u_f (by decide) (u_f (by decide) (u_f (by decide) (u_f (by decide) (u_t (by decide) (u_p (cs_s64 CI ie he hp q) (fun r1 a f q hf => DS _ _ _ _) (fun v p1 r _ er => by subst er; exact RS _ _))))))))))))))))))))
  by_cases c67_ : c = 67
  · subst c67_
    show cs_Q _ _ _ _ (sp_b (sp_les B e 4 0 0 p) fun x p1 => .inr ((67, Int64.ofNat x, 0, false), p1))
    exact u_f (by decide) (u_f (by decide) (u_f (by decide) (u_f (by decide) (u_f (by decide) (u_f (by decide) (u_f (by decide) (u_f (by decide) (u_f (by decide) (u_f (by decide) (u_f (by decide) (u_f (by decide) (u_f (by decide) (u_f (by decide) (u_f (by decide) (u_f (by decide) (u_f (by decide) (u_f (by decide) (u_f (by decide) (u_t (by decide) (u_p (cs_low CI ie he hp q (N := 4) (by decide)) (fun r1 a f q hf => DS _ _ _ _) (fun v p1 r _ er => by subst er; exact RS _ _)))))))))))))))))))))
  by_cases c68_ : c = 68
  · subst c68_
    show cs_Q _ _ _ _ (sp_b (sp_les B e 8 0 0 p) fun x p1 => .inr ((68, Int64.ofNat x, 0, false), p1))
    exact u_f (by decide) (u_f (by decide) (u_f (by decide) (u_f (by decide) (u_f (by decide) (u_f (by decide) (u_f (by decide) (u_f (by decide) (u_f (by decide) (u_f (by decide) (u_f (by decide) (u_f (by decide) (u_f (by decide) (u_f (by decide) (u_f (by decide) (u_f (by decide) (u_f (by decide) (u_f (by decide) (u_f (by decide) (u_f (by decide) (u_t (by decide) (u_p (cs_low CI ie he hp q (N := 8) (by decide)) (fun r1 a f q hf => DS _ _ _ _) (fun v p1 r _ er => by subst er; exact RS _ _))))))))))))))))))))))
  by_cases c208_ : c = 208
  · subst c208_
    show cs_Q _ _ _ _ (sp_b (sp_byte sp_isR 8 B e p) fun x p1 => .inr ((208, Int64.ofNat x, 0, false), p1))
    refine u_f (by decide) (u_f (by decide) (u_f (by decide) (u_f (by decide) (u_f (by decide) (u_f (by decide) (u_f (by decide) (u_f (by decide) (u_f (by decide) (u_f (by decide) (u_f (by decide) (u_f (by decide) (u_f (by decide) (u_f (by decide) (u_f (by decide) (u_f (by decide) (u_f (by decide) (u_f (by decide) (u_f (by decide) (u_f (by decide) (u_f (by decide) (u_t (by decide) (?_))))))))))))))))))))))
    refine u_p (cs_rt CI ie he hp q) (fun r1 a f q hf => DS _ _ _ _) (fun v p1 r e1 er => ?_)
    subst er
    have pb := sp_byte_b hp e1
    have vb := C'.2.2.2.2.2.2.2.2.2 p
    have e6 : (Int32.ofNat v).toInt64 = Int64.ofNat v := nn_t6 (by omega)
    show cs_Q _ _ _ (if _ then some (pm_setL _ 19 8 (Int32.ofNat v).toInt64) else none) _
    rw [e6]
    exact RS _ _
  by_cases c209_ : c = 209
  · subst c209_
    show cs_Q _ _ _ _ (.inr ((209, 0, 0, false), p))
    exact u_f (by decide) (u_f (by decide) (u_f (by decide) (u_f (by decide) (u_f (by decide) (u_f (by decide) (u_f (by decide) (u_f (by decide) (u_f (by decide) (u_f (by decide) (u_f (by decide) (u_f (by decide) (u_f (by decide) (u_f (by decide) (u_f (by decide) (u_f (by decide) (u_f (by decide) (u_f (by decide) (u_f (by decide) (u_f (by decide) (u_f (by decide) (u_f (by decide) (u_t (by decide) (RR _ _ _)))))))))))))))))))))))
  by_cases c210_ : c = 210
  · subst c210_
    show cs_Q _ _ _ _ (sp_b (sp_num B e p) fun x p1 => .inr ((210, Int64.ofNat x, 0, false), p1))
    exact u_f (by decide) (u_f (by decide) (u_f (by decide) (u_f (by decide) (u_f (by decide) (u_f (by decide) (u_f (by decide) (u_f (by decide) (u_f (by decide) (u_f (by decide) (u_f (by decide) (u_f (by decide) (u_f (by decide) (u_f (by decide) (u_f (by decide) (u_f (by decide) (u_f (by decide) (u_f (by decide) (u_f (by decide) (u_f (by decide) (u_f (by decide) (u_f (by decide) (u_f (by decide) (u_t (by decide) (NU))))))))))))))))))))))))
  by_cases c252_ : c = 252
  · subst c252_
    show cs_Q _ _ _ _ (sp_fur B e d p0 p)
    refine u_f (by decide) (u_f (by decide) (u_f (by decide) (u_f (by decide) (u_f (by decide) (u_f (by decide) (u_f (by decide) (u_f (by decide) (u_f (by decide) (u_f (by decide) (u_f (by decide) (u_f (by decide) (u_f (by decide) (u_f (by decide) (u_f (by decide) (u_f (by decide) (u_f (by decide) (u_f (by decide) (u_f (by decide) (u_f (by decide) (u_f (by decide) (u_f (by decide) (u_f (by decide) (u_f (by decide) (u_t (by decide) (?_)))))))))))))))))))))))))
    exact u_id (cs_long C' ie he hp dt 252 p0 q)
  have cl : sp_cls c = 12 := by
    unfold sp_cls
    repeat rw [if_neg (by omega)]
  rw [if_neg (show ¬ (c = 5 ∨ c = 11) by omega), if_neg (show ¬ (2 ≤ c ∧ c ≤ 4) by omega)]
  have ops : sp_ops B e d c p0 p = .inl (10, p0) := by
    unfold sp_ops
    rw [cl]
    rfl
  rw [ops]
  refine u_f (N 0 (by decide) c0_) (u_f (N 1 (by decide) c1_) (u_f (N 2 (by decide) c2_) (u_f (N 3 (by decide) c3_) (u_f (N 4 (by decide) c4_) (u_f (N 5 (by decide) c5_) (u_f (N 11 (by decide) c11_) (u_f (N 12 (by decide) c12_) (u_f (N 13 (by decide) c13_) (u_f (N 14 (by decide) c14_) (u_f (N 15 (by decide) c15_) (u_f (N 16 (by decide) c16_) (u_f (N 26 (by decide) c26_) (u_f (N 27 (by decide) c27_) (u_f (N 28 (by decide) c28_) (u_f (N 63 (by decide) c63_) (u_f (N 64 (by decide) c64_) (u_f (N 65 (by decide) c65_) (u_f (N 66 (by decide) c66_) (u_f (N 67 (by decide) c67_) (u_f (N 68 (by decide) c68_) (u_f (N 208 (by decide) c208_) (u_f (N 209 (by decide) c209_) (u_f (N 210 (by decide) c210_) (u_f (N 252 (by decide) c252_) (u_b (cs_fail (h := ri h _ _ _ _ _) K _ _ _ _) ?_)))))))))))))))))))))))))
  exact u_x (h' := ri h (Int32.ofNat c) (Int32.ofNat p0) l 0 0) (a := Int32.ofNat p) (by decide) rfl ⟨_, _, _, _, _, rfl⟩
theorem cs_ins {ob d : Bool} (C : cS h n b mm B) (ie : pm_I h 19 2 = Int32.ofNat e) (he : e ≤ n) (hp : p ≤ e) (ib : (pm_I h 19 16 = 0) = (ob = false)) (dt : (0 ≤ pm_L h mm 14) = (d = true)) (q : Int32) : cs_Q wH (iF h) (cRI h (Int32.ofNat p) l ob q) (fX9_instruction (rc (ri h o oa l x y) (Int32.ofNat p) 0 q) 19) (sp_in B e d p) := by
  have C' := C
  obtain ⟨K, rm0, km, -⟩ := C
  unfold fX9_instruction sp_in
  refine u_t K (u_l ?_)
  rw [ci_7]
  refine u_p (cs_next (cS_ri C') ie he hp q) (fun r1 a f q hf => y_t K ?_) ?_
  · rw [ci_6, ci_8, ci_9]
    exact y_i (fun _ => cd_b46 K rm0 km hf _ _) (fun _ => y_i (fun _ => cd_b46 K rm0 km hf _ _) (fun _ => y_r (a := a) rfl ⟨_, _, _, _, _, rfl⟩))
  intro c p1 r e1 er
  subst er
  obtain ⟨b1, b2, b3⟩ := sp_next_b e1
  have hc : c < 256 := by rw [b2]; exact C'.2.2.2.2.2.2.2.2.2 p
  refine u_t K ?_
  rw [ci_6, ci_8, ci_9]
  show cs_Q _ _ _ (if Int32.ofNat c < 69 then _ else _) _
  have LT : ∀ k, k < 1000 → (Int32.ofNat c < Int32.ofNat k) = (c < k) := fun k hk => nn_lt (by omega) (by omega)
  have GT : ∀ k, k < 1000 → (Int32.ofNat k < Int32.ofNat c) = (k < c) := fun k hk => nn_lt (by omega) (by omega)
  have LE : ∀ k, k < 1000 → (Int32.ofNat c ≤ Int32.ofNat k) = (c ≤ k) := fun k hk => nn_le (by omega) (by omega)
  have N : ∀ k, k < 1000 → c ≠ k → ¬ Int32.ofNat c = Int32.ofNat k := fun k hk z => by rw [nn_eq (by omega) (by omega)]; exact z
  have CI := cS_ri (o := Int32.ofNat c) (oa := Int32.ofNat p) (l := l) (x := 0) (y := 0) C'
  have two : (40 ≤ c ∧ c ≤ 62) ∨ c = 17 → cs_Q wH (iF h) (cRI h (Int32.ofNat p) l ob q) ((fX9_number (rc (ri h (Int32.ofNat c) (Int32.ofNat p) l 0 0) (Int32.ofNat p1) 0 q) 19 32).bind fun v => if pm_kd v.2 19 = 9 then (fX9_number (pm_setL v.2 19 8 v.1) 19 32).bind fun v2 => if pm_kd v2.2 19 = 9 then some (pm_setL v2.2 19 9 v2.1) else none else none) (sp_ops B e d c p p1) := by
    intro cc
    have ops : sp_ops B e d c p p1 = sp_b (sp_num B e p1) fun x p1 => sp_b (sp_num B e p1) fun y p2 => .inr ((c, Int64.ofNat x, Int64.ofNat y, false), p2) := by
      unfold sp_ops
      rw [(k_cls ⟨c, hc⟩).2.2 cc]
      rfl
    rw [ops]
    refine u_p (cs_num CI ie he (by omega) q) (fun r1 a f q hf => y_t K ?_) ?_
    · rw [ci_8]
      refine y_b (cd_num (h := ri h _ _ _ _ _) K hf a q 32 (by decide)) (y_t K ?_)
      rw [ci_9]
      exact y_r (a := a) rfl ⟨_, _, _, _, _, rfl⟩
    · intro v p2 r e2 er
      subst er
      have pb := sp_num_b (show p1 ≤ e by omega) e2
      refine u_t K ?_
      rw [ci_8]
      refine u_p (cs_num (cS_ri C') ie he (by omega) q) (fun r1 a f q hf => y_t K ?_) ?_
      · rw [ci_9]
        exact y_r (a := a) rfl ⟨_, _, _, _, _, rfl⟩
      · intro v2 p3 r e3 er
        subst er
        refine u_t K ?_
        rw [ci_9]
        exact u_r rfl
  have b64 : (c < 40 ∨ 62 < c) → (c < 69 ∨ 196 < c) → cs_Q wH (iF h) (cRI h (Int32.ofNat p) l ob q) (fX9_instruction_b64 (rc (ri h (Int32.ofNat c) (Int32.ofNat p) l 0 0) (Int32.ofNat p1) 0 q) 19) (if c = 5 ∨ c = 11 then .inr ((c, 0, 0, false), p1) else if 2 ≤ c ∧ c ≤ 4 then sp_b (sp_blk B e p1) fun t p2 => .inr ((c, t, 0, false), p2) else sp_ops B e d c p p1) := by
    intro c62 c196
    unfold fX9_instruction_b64
    refine u_t K ?_
    show cs_Q _ _ _ (if Int32.ofNat c = 17 then _ else _) _
    by_cases c17 : c = 17
    · rw [if_neg (show ¬ (c = 5 ∨ c = 11) by omega), if_neg (show ¬ (2 ≤ c ∧ c ≤ 4) by omega)]
      exact u_t (by rw [c17]; rfl) (two (.inr c17))
    · refine u_f (N 17 (by decide) c17) ?_
      by_cases c32 : c < 32
      · exact u_t (by rw [show pm_I (rc (ri h (Int32.ofNat c) (Int32.ofNat p) l 0 0) (Int32.ofNat p1) 0 q) 19 6 = Int32.ofNat c from rfl]; exact (LT 32 (by decide)).mpr c32) (cs_123 C' ie he (by omega) ib dt c p hc c17 (.inl c32) c62 c196 q)
      · refine u_f (show ¬ Int32.ofNat c < Int32.ofNat 32 by rw [LT 32 (by decide)]; exact c32) ?_
        by_cases c38 : 38 < c
        · exact u_t (show Int32.ofNat 38 < Int32.ofNat c by rw [GT 38 (by decide)]; exact c38) (cs_123 C' ie he (by omega) ib dt c p hc c17 (.inr c38) c62 c196 q)
        · refine u_f (show ¬ Int32.ofNat 38 < Int32.ofNat c by rw [GT 38 (by decide)]; exact c38) ?_
          rw [if_neg (show ¬ (c = 5 ∨ c = 11) by omega), if_neg (show ¬ (2 ≤ c ∧ c ≤ 4) by omega)]
          have ops : sp_ops B e d c p p1 = sp_b (sp_num B e p1) fun x p1 => .inr ((c, Int64.ofNat x, 0, false), p1) := by
            unfold sp_ops
            rw [(k_cls ⟨c, hc⟩).2.1 (show c = 12 ∨ c = 13 ∨ c = 16 ∨ (32 ≤ c ∧ c ≤ 38) ∨ c = 210 by omega)]
            rfl
          rw [ops]
          refine u_p (cs_num CI ie he (by omega) q) (fun r1 a f q hf => y_t K ?_) ?_
          · rw [ci_8]
            exact y_r (a := a) rfl ⟨_, _, _, _, _, rfl⟩
          · intro v2 p3 r e3 er
            subst er
            refine u_t K ?_
            rw [ci_8]
            exact u_r rfl
  have b46 : (c < 69 ∨ 196 < c) → cs_Q wH (iF h) (cRI h (Int32.ofNat p) l ob q) (fX9_instruction_b46 (rc (ri h (Int32.ofNat c) (Int32.ofNat p) l 0 0) (Int32.ofNat p1) 0 q) 19) (if c = 5 ∨ c = 11 then .inr ((c, 0, 0, false), p1) else if 2 ≤ c ∧ c ≤ 4 then sp_b (sp_blk B e p1) fun t p2 => .inr ((c, t, 0, false), p2) else sp_ops B e d c p p1) := by
    intro c196
    unfold fX9_instruction_b46
    refine u_t K ?_
    by_cases c40 : c < 40
    · exact u_t (show Int32.ofNat c < Int32.ofNat 40 by rw [LT 40 (by decide)]; exact c40) (b64 (.inl c40) c196)
    · refine u_f (show ¬ Int32.ofNat c < Int32.ofNat 40 by rw [LT 40 (by decide)]; exact c40) ?_
      by_cases c62 : c ≤ 62
      · rw [if_neg (show ¬ (c = 5 ∨ c = 11) by omega), if_neg (show ¬ (2 ≤ c ∧ c ≤ 4) by omega)]
        exact u_t (show Int32.ofNat c ≤ Int32.ofNat 62 by rw [LE 62 (by decide)]; exact c62) (two (.inl ⟨by omega, c62⟩))
      · exact u_f (show ¬ Int32.ofNat c ≤ Int32.ofNat 62 by rw [LE 62 (by decide)]; exact c62) (b64 (.inr (by omega)) c196)
  by_cases c69 : c < 69
  · exact u_t (show Int32.ofNat c < Int32.ofNat 69 by rw [LT 69 (by decide)]; exact c69) (b46 (.inl c69))
  · refine u_f (show ¬ Int32.ofNat c < Int32.ofNat 69 by rw [LT 69 (by decide)]; exact c69) ?_
    by_cases c196 : 196 < c
    · exact u_t (show Int32.ofNat 196 < Int32.ofNat c by rw [GT 196 (by decide)]; exact c196) (b46 (.inr c196))
    · refine u_f (show ¬ Int32.ofNat 196 < Int32.ofNat c by rw [GT 196 (by decide)]; exact c196) ?_
      rw [if_neg (show ¬ (c = 5 ∨ c = 11) by omega), if_neg (show ¬ (2 ≤ c ∧ c ≤ 4) by omega)]
      have ops : sp_ops B e d c p p1 = .inr ((c, 0, 0, false), p1) := by
        unfold sp_ops
        rw [(k_cls ⟨c, hc⟩).1 (show c < 2 ∨ c = 15 ∨ c = 26 ∨ c = 27 ∨ (69 ≤ c ∧ c ≤ 196) ∨ c = 209 by omega)]
        rfl
      rw [ops]
      exact u_r rfl
end CINS3
