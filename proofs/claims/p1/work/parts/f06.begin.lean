/-! THE LAW'S BEGINNING, AND THE CLAIM OUT OF ONE STATEMENT ON PLAIN FUNCTIONS (begun with kit/laws/SKELETON) -/
section PLB
variable {g : pm_Gm} {cc : ByteArray} {own : String} {pc : Nat} {lv : List (Nat × Value)} {st : List Value} {h : pm_H} {l : Launch} {G : pm_Gl} {M : pm_M} {Qr : Option Value → pm_H → Prop}
theorem pl_newo (C : pm_C g cc own) (X : pm_X g l G M 600002 7302232 Qr) {i c : Nat} (hd : decode cc pc = .ok (.new i, 3)) (hc : pm_Cl c) (w1 : Cond.classLink own i (pm_Rn c) ∈ lw_tbl) (w2 : Cond.instantiable (pm_Rn c) (pm_fN c) ∈ lw_tbl) (w3 : Cond.initialized (pm_Rn c) ∈ lw_tbl) (R : pl_R (pm_new h c 0)) (kk : pm_G g (pc + 3) lv (.ref (pm_sz h) :: st) (pm_new h c 0) (pm_sz (pm_new h c 0)) (pm_us (pm_new h c 0))) : pm_G g pc lv st h (pm_sz h) (pm_us h) := by
  have e2 : pm_us (pm_new h c 0) = pm_us h + pm_fN c := by rw [pm_us_new, if_pos (Nat.lt_succ_of_lt hc.1)]
  exact pm_newo C X hd hc w1 w2 w3 R.1 (by rw [← e2]; exact R.2) (pm_eq kk rfl rfl rfl rfl e2)
end PLB
theorem pl_R0 : pl_R (pm_new pm_0 12 0) := ⟨by decide, by rw [pm_us_new]; decide⟩
set_option maxRecDepth 100000 in
theorem lw_begin {g : pm_Gm} {l : Launch} {G : pm_Gl} {Qr : Option Value → pm_H → Prop} (C : pm_C g code RL) (X : pm_X g l G mL_law 600002 7302232 Qr) (htr : l.stackTraces = false) {b L : Nat} {xs : Nat → Int32} (SX : pl_S g b L xs) (hL : L ≤ 384) (q : ∀ h, Qr (some (.int 1)) h) {h2 : pm_H} (hf : lw_all xs L = some h2) : pm_G g 0 [(0, .retAddr b)] [] pm_0 0 0 := by
  unfold lw_all at hf
  obtain ⟨r1, e1, hf⟩ := pm_bd hf
  obtain ⟨⟨R1, R2⟩, hf⟩ := pm_if hf
  obtain ⟨r2, e2, hf⟩ := pm_bd hf
  obtain ⟨R3, hf⟩ := pm_if hf
  show pm_G g 0 [(0, .retAddr b)] [] pm_0 (pm_sz pm_0) (pm_us pm_0)
  refine pl_newo C X dL_law_0 pm_Cl12 ckL_7 ccL12.1 ccL12.2 pl_R0 ?_
  refine pm_dup C dL_law_3 rfl ?_
  refine pm_callI (as := []) (st := [.ref (pm_sz pm_0)]) C X dL_law_4 lnL_9 myX12_init iiX12_init ⟨by decide, by decide⟩ rfl rfl (Nat.le_of_ble_eq_true rfl) (pl_1 (moX12_init e1) R1) (pl_2 (moX12_init e1) R1) (ctX12_init e1 ?_)
  show pm_G g 7 [(0, .retAddr b)] [.ref 0] r1 (pm_sz (pm_new pm_0 12 0) + (pm_sz r1 - pm_sz (pm_new pm_0 12 0))) (pm_us (pm_new pm_0 12 0) + (pm_us r1 - pm_us (pm_new pm_0 12 0)))
  refine pl_go (moX12_init e1) ?_
  refine pm_astore_n (lv' := [(1, .ref 0), (0, .retAddr b)]) C dL_law_7 rfl (pm_nl X (by decide)) rfl ?_
  refine pl_newo C X dL_law_8 pm_Cl16 ckL_10 ccL16.1 ccL16.2 R2 ?_
  refine pm_dup C dL_law_11 rfl ?_
  refine pm_callI (as := []) (st := [.ref (pm_sz r1)]) C X dL_law_12 lnL_12 myX16_init iiX16_init ⟨by decide, by decide⟩ rfl rfl (Nat.le_of_ble_eq_true rfl) (pl_1 (moX16_init e2) R3) (pl_2 (moX16_init e2) R3) (ctX16_init htr e2 ?_)
  show pm_G g 15 [(1, .ref 0), (0, .retAddr b)] [.ref (pm_sz r1)] r2 (pm_sz (pm_new r1 16 0) + (pm_sz r2 - pm_sz (pm_new r1 16 0))) (pm_us (pm_new r1 16 0) + (pm_us r2 - pm_us (pm_new r1 16 0)))
  refine pl_go (moX16_init e2) ?_
  refine pm_astore_n (lv' := [(2, .ref (pm_sz r1)), (1, .ref 0), (0, .retAddr b)]) C dL_law_15 rfl (pm_nl X (by decide)) rfl ?_
  refine pm_iconst (v := Int32.ofNat 0) C dL_law_16 (by decide) ?_
  refine pm_istore_n (lv' := [(3, .int (Int32.ofNat 0)), (2, .ref (pm_sz r1)), (1, .ref 0), (0, .retAddr b)]) C dL_law_17 rfl (pm_nl X (by decide)) rfl ?_
  exact lw_loop C X SX hL q (L / 6) 0 r2 h2 (by omega) (by omega) R3 hf
/-- THE PURE STATEMENT: on every script of at most N ints class and reference answer alike, within the room -/
def lw_pure (N : Nat) : Prop := ∀ (xs : Nat → Int32) (L : Nat), L ≤ N → ∃ h : pm_H, lw_all xs L = some h
