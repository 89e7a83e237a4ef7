section PTC
variable {g : pm_Gm} {cc : ByteArray} {own : String} {pc : Nat} {lv : List (Nat × Value)} {st st0 : List Value} {h : pm_H} {kc ks : Nat} {l : Launch} {G : pm_Gl} {M M' : pm_M} {mc ms mc' ms' n : Nat} {Qr : Option Value → pm_H → Prop} {Qt : Nat → pm_H → Prop} {as : List Value}
theorem pt_callV (C : pm_C g cc own) (X : pm_XT g l G M mc ms Qr Qt) {i r c : Nat} (hd : decode cc pc = .ok (.invokevirtual i, 3)) (ln : pm_Ln own i M') (my : pm_My M' n) (vi : pm_Vi M' c) (fit : pm_Fit M M') (hst : st0 = as.reverse ++ .ref r :: st) (hn : as.length = n) (hk : pm_kd h r = c) (hcat : (st.map fun v => v.category).sum ≤ 8) (h1 : kc + mc' ≤ mc) (h2 : ks + ms' ≤ ms)
    (ct : pm_Ct l G M' (.ref r :: as) h mc' ms' (fun v h' => pm_G g (pc + 3) lv (v.toList ++ st) h' (kc + mc') (ks + ms'))) : pm_G g pc lv st0 h kc ks := by
  obtain ⟨p, l', e, R, s, m, args, below, meth, c', Q, G', nL⟩ := g
  obtain ⟨hx, hb, hts, hown, hml, hlocks, hK, hbs, hN⟩ := C
  obtain ⟨rfl, rfl, hQ, hr, rfl, hnL, het⟩ := X
  intro H locs ls hR hS hl
  have ht : ∀ w ∈ pm_tb, w.before args s = true := fun w hw => hts w (List.mem_filter.mp hw).1 (List.mem_filter.mp hw).2
  have he := pm_ws_at G' h (pm_live hR hk (Nat.ne_of_lt vi.1.1))
  rw [pm_E_obj hk (Nat.lt_succ_of_lt vi.1.1)] at he
  have hpre : PreV s H (pm_Rn c) (G'.1 + r) (pm_Pc G' (.ref r :: as) h) (as.map (pm_v G'.1)) := ⟨pm_blind _ _ _, va_recv hK hR.2.1 vi.1.2.1 he, pm_Pc_at (as := .ref r :: as) hR hK hN hS⟩
  have hstk : (st0.map (pm_v G'.1)) = (as.map (pm_v G'.1)).reverse ++ .ref (G'.1 + r) :: st.map (pm_v G'.1) := by
    rw [hst, List.map_append, List.map_reverse]
    rfl
  have hlen : (as.map (pm_v G'.1)).length = n := by rw [List.length_map]; exact hn
  have hroom := lv_room (m := m) (pc := pc) (ls := ls) (rest := st0.map (pm_v G'.1)) (st := st.map (pm_v G'.1)) (by rw [pm_catsum]; exact hcat)
  rcases ln with hw | ⟨host, hw⟩
  · have hT : GoodIn pm_tb (wsV own i (pm_Rn c) M'.1 (pm_wsy M')) := by
      intro w hw'
      have hini : Cond.initialized (pm_Rn c) ∈ lw_tbl := by rw [← vi.2.1]; exact my.2.1
      unfold wsV at hw'
      rcases List.mem_append.mp hw' with hq | hq
      · have hm : w ∈ pm_tb := by
          simp only [List.mem_cons, List.not_mem_nil, or_false] at hq
          rcases hq with rfl | rfl | rfl | rfl
          · exact pm_tb_mem hw rfl
          · exact pm_tb_mem vi.2.2.1 rfl
          · exact pm_tb_mem vi.2.2.2 rfl
          · exact pm_tb_mem hini rfl
        exact ⟨hm, pm_tb_good hm⟩
      · exact pm_goodM my w hq
    exact pm_after (va_runV (As := as.map (pm_v G'.1)) (rest := st.map (pm_v G'.1)) ⟨hx, hb, hml, hown, ht⟩ ct (cwV n ht hT rfl rfl rfl ⟨vi.2.1, my.2.2⟩ fit) hpre rfl hlen hl.1 hstk hroom hd ⟨h1, h2⟩) hS (fun v h' q H1 locs1 hR1 hS1 => q H1 locs1 ls hR1 hS1 hl)
  · exact pm_after (va_runVN (As := as.map (pm_v G'.1)) (rest := st.map (pm_v G'.1)) ⟨hx, hb, hml, hown, ht⟩ ct ⟨va_cnB n ht (pm_goodM my) rfl rfl rfl (hN.1 _ hw rfl) (hts _ my.2.1 rfl) my.2.2 fit, hts _ vi.2.2.1 rfl, hts _ vi.2.2.2 rfl⟩ hpre rfl hlen hl.1 hstk hroom hd ⟨h1, h2⟩) hS (fun v h' q H1 locs1 hR1 hS1 => q H1 locs1 ls hR1 hS1 hl)
theorem pt_callS (C : pm_C g cc own) (X : pm_XT g l G M mc ms Qr Qt) {i : Nat} (hd : decode cc pc = .ok (.invokestatic i, 3)) (ln : pm_Ln own i M') (my : pm_My M' n) (sd : pm_St M') (fit : pm_Fit M M') (hst : st0 = as.reverse ++ st) (hn : as.length = n) (hcat : (st.map fun v => v.category).sum ≤ 8) (h1 : kc + mc' ≤ mc) (h2 : ks + ms' ≤ ms)
    (ct : pm_Ct l G M' as h mc' ms' (fun v h' => pm_G g (pc + 3) lv (v.toList ++ st) h' (kc + mc') (ks + ms'))) : pm_G g pc lv st0 h kc ks := by
  obtain ⟨p, l', e, R, s, m, args, below, meth, c', Q, G', nL⟩ := g
  obtain ⟨hx, hb, hts, hown, hml, hlocks, hK, hbs, hN⟩ := C
  obtain ⟨rfl, rfl, hQ, hr, rfl, hnL, het⟩ := X
  intro H locs ls hR hS hl
  have ht : ∀ w ∈ pm_tb, w.before args s = true := fun w hw => hts w (List.mem_filter.mp hw).1 (List.mem_filter.mp hw).2
  have hpre : PreS s H (pm_Pc G' as h) (as.map (pm_v G'.1)) := ⟨pm_blind _ _ _, pm_Pc_at hR hK hN hS⟩
  have hstk : (st0.map (pm_v G'.1)) = (as.map (pm_v G'.1)).reverse ++ st.map (pm_v G'.1) := by
    rw [hst, List.map_append, List.map_reverse]
  have hlen : (as.map (pm_v G'.1)).length = n := by rw [List.length_map]; exact hn
  have hroom := lv_room (m := m) (pc := pc) (ls := ls) (rest := st0.map (pm_v G'.1)) (st := st.map (pm_v G'.1)) (by rw [pm_catsum]; exact hcat)
  rcases ln with hw | ⟨host, hw⟩
  · have hT : GoodIn pm_tb (va_wsS own i M'.1 (pm_wsy M')) := by
      intro w hw'
      unfold va_wsS at hw'
      rcases List.mem_append.mp hw' with hq | hq
      · have hm : w ∈ pm_tb := by
          simp only [List.mem_cons, List.not_mem_nil, or_false] at hq
          rcases hq with rfl | rfl | rfl
          · exact pm_tb_mem hw rfl
          · exact pm_tb_mem sd rfl
          · exact pm_tb_mem my.2.1 rfl
        exact ⟨hm, pm_tb_good hm⟩
      · exact pm_goodM my w hq
    exact pm_after (va_runS (As := as.map (pm_v G'.1)) (rest := st.map (pm_v G'.1)) ⟨hx, hb, hml, hown, ht⟩ ct (va_cwS n ht hT rfl rfl rfl my.2.2 fit) hpre rfl hlen hl.1 hstk hroom hd ⟨h1, h2⟩) hS (fun v h' q H1 locs1 hR1 hS1 => q H1 locs1 ls hR1 hS1 hl)
  · exact pm_after (va_runSN (As := as.map (pm_v G'.1)) (rest := st.map (pm_v G'.1)) ⟨hx, hb, hml, hown, ht⟩ ct ⟨va_cnB n ht (pm_goodM my) rfl rfl rfl (hN.1 _ hw rfl) (hts _ my.2.1 rfl) my.2.2 fit, hts _ sd rfl, trivial⟩ hpre rfl hlen hl.1 hstk hroom hd ⟨h1, h2⟩) hS (fun v h' q H1 locs1 hR1 hS1 => q H1 locs1 ls hR1 hS1 hl)
/-- a call of a method with two ends, out of one with two ends that catches nothing -/
theorem pt_callVT (C : pm_C g cc own) (X : pm_XT g l G M mc ms Qr Qt) {i r c : Nat} (hd : decode cc pc = .ok (.invokevirtual i, 3)) (hw : Cond.methodLink own i M'.1 ∈ lw_tbl) (my : pm_My M' n) (vi : pm_Vi M' c) (fit : pm_Fit M M') (hst : st0 = as.reverse ++ .ref r :: st) (hn : as.length = n) (hk : pm_kd h r = c) (hcat : (st.map fun v => v.category).sum ≤ 8) (h1 : kc + mc' ≤ mc) (h2 : ks + ms' ≤ ms)
    (ct : pm_Ctt l G M' (.ref r :: as) h mc' ms' (fun v h' => pm_G g (pc + 3) lv (v.toList ++ st) h' (kc + mc') (ks + ms')) Qt) : pm_G g pc lv st0 h kc ks := by
  obtain ⟨p, l', e, R, s, m, args, below, meth, c', Q, G', nL⟩ := g
  obtain ⟨hx, hb, hts, hown, hml, hlocks, hK, hbs, hN⟩ := C
  obtain ⟨rfl, rfl, rfl, hr, rfl, hnL, het⟩ := X
  intro H locs ls hR hS hl
  have ht : ∀ w ∈ pm_tb, w.before args s = true := fun w hw => hts w (List.mem_filter.mp hw).1 (List.mem_filter.mp hw).2
  have he := pm_ws_at G' h (pm_live hR hk (Nat.ne_of_lt vi.1.1))
  rw [pm_E_obj hk (Nat.lt_succ_of_lt vi.1.1)] at he
  obtain ⟨cellB, hcB, hoB, hclB⟩ := va_recv hK hR.2.1 vi.1.2.1 he
  have hstk : (st0.map (pm_v G'.1)) = (as.map (pm_v G'.1)).reverse ++ .ref (G'.1 + r) :: st.map (pm_v G'.1) := by
    rw [hst, List.map_append, List.map_reverse]
    rfl
  have hlen : (as.map (pm_v G'.1)).length = n := by rw [List.length_map]; exact hn
  intro T hT X'
  obtain ⟨mk, methM, hnamed, hmethM, hstM, habM⟩ := Cond.instanceMethod_spec (hts _ vi.2.2.1 rfl)
  obtain ⟨methM', cM, hmethM', -, -, -, -, -, -, hsigM⟩ := Cond.code_spec hnamed (hts _ my.1 rfl)
  cases hmethM.symm.trans hmethM'
  obtain ⟨c2, r2, m2, q1, q2, q3, q4, kP, hkP, hkPi⟩ := Cond.selects_spec (hts _ vi.2.2.2 rfl)
  cases hclB.symm.trans q1
  cases (State.methodFound?_of_named hnamed ⟨my.2.2.1, my.2.2.2.1⟩).symm.trans q2
  cases hnamed.symm.trans q3
  have hselP : selectMethod e.platform s.vm cellB.cls mk = .method mk := by rw [Launch.admits_selectMethod X'.admits]; exact q4
  have hsl : (as.map (pm_v G'.1)).length = methM.sig.parameters.length := by
    have h9 := my.2.2.2.2
    rw [hsigM] at h9
    exact hlen.trans (Option.some.inj h9).symm
  obtain ⟨vm₁, X₁, hstep₁⟩ := X'.invokevirtual hx hown (hts _ hw rfl) hnamed hmethM hstM hkP hkPi ⟨my.2.2.1, my.2.2.2.1⟩ (a := G'.1 + r) (cell := cellB) (by rw [hT]; exact hcB)
    (fun z h => by rw [h] at hoB; cases hoB) hselP hmethM habM hkP hkPi (g := F0 m pc ls (st0.map (pm_v G'.1))) rfl (argsL := as.map (pm_v G'.1)) (rest := st.map (pm_v G'.1)) hsl hstk (by rw [hb]; exact hd)
  have hpay : ∀ w ∈ pm_wsy M', ∀ (a' : Array Value) (U : State), s.WarmedH U.vm → w.before a' U = true := fun w hw9 a' U hW9 => word_at hW9 (pm_goodM my w hw9).2 (ht w (pm_goodM my w hw9).1)
  have hTv : (T.setVm vm₁).heap = H := hT
  obtain ⟨o, t, U', L, X₂, hL, e1, ⟨hq, hz, hk9⟩, hret, hthr⟩ := pm_backT (a := (Value.ref (G'.1 + r) :: as.map (pm_v G'.1)).toArray) (f := F0 m pc ls (st.map (pm_v G'.1))) (ig := .invokevirtual i) (mk := mk) ct fit.1 fit.2 hpay (fun a' U hW9 => word_at hW9 (Or.inl rfl) (hts _ my.2.1 rfl)) X₁ rfl (by rw [hml]; exact hl.1) (by rw [hb]; exact hd) (by show 2 * 0 + _ ≤ 8; rw [pm_catsum]; omega) (X₁.named hnamed) h1 h2 (pm_Pc_at (as := .ref r :: as) hR hK hN hS _ hTv X₁.warmed)
  have hc0 : (State.calling (T.setVm vm₁) (F0 m pc ls (st.map (pm_v G'.1))) mk (Value.ref (G'.1 + r) :: as.map (pm_v G'.1)).toArray).heap = H := hT
  rw [hc0] at hz hk9
  have hS1 : va_S (fun q => G'.1 ≤ q) s.heap U'.heap (locs ++ L) := ⟨Nat.le_trans hS.1 (by rw [e1]; exact hz), fun q h1 h2 => by rw [e1, hk9 q (Nat.lt_of_lt_of_le h1 hS.1) h2]; exact hS.2.1 q h1 h2, fun q hq => by
      rcases List.mem_append.mp hq with h | h
      · exact hS.2.2 q h
      · exact hL q h⟩
  rcases hq with ⟨v, h', ho, hqr, hrel⟩ | ⟨x, h', ho, hqt, hrel⟩
  · obtain ⟨t2, a1, b1⟩ := hqr U'.heap (locs ++ L) ls (by rw [e1]; exact hrel) hS1 hl U' rfl X₂
    refine ⟨t2, hstep₁ _ fun acts => ?_, b1⟩
    rw [doInvoke_state]
    refine (hret _ ho).trans ?_
    have es : (v.map (pm_v G'.1)).toList ++ st.map (pm_v G'.1) = (v.toList ++ st).map (pm_v G'.1) := by cases v <;> rfl
    show Steps p.tables e below (U'.setTop (F0 m (pc + 3) ls ((v.map (pm_v G'.1)).toList ++ st.map (pm_v G'.1)))) t2
    rw [es]
    exact a1
  · obtain ⟨s1, run, ended, hW9, hfr9⟩ := Stand.leaveThrown (stand_widen X₂ h1 h2) (G'.1 + x) (g := F0 m pc ls (st.map (pm_v G'.1))) rfl rfl rfl (pt_out het _) hlocks
    refine ⟨_, hstep₁ _ fun acts => ?_, .threw (G'.1 + x), run, ended, ⟨Or.inr ⟨x, h', rfl, hqt, ?_⟩, ?_⟩, locs ++ L, ⟨hW9, hfr9⟩, hS1.2.2⟩
    · rw [doInvoke_state]
      exact (hthr _ ho).trans s1
    · show pm_Rel G' h' U'.heap
      rw [e1]
      exact hrel
    · exact hS1.F (t := U'.setFrames (.throwing (G'.1 + x) :: below)) rfl
end PTC
/-- the two ends, by the answer's type -/
def pt_eI (Qr : Option Value → pm_H → Prop) (Qt : Nat → pm_H → Prop) (r : (Nat × pm_H) ⊕ (Int32 × pm_H)) : Prop := match r with
  | .inl z => Qt z.1 z.2
  | .inr v => Qr (some (.int v.1)) v.2
def pt_eJ (Qr : Option Value → pm_H → Prop) (Qt : Nat → pm_H → Prop) (r : (Nat × pm_H) ⊕ (Int64 × pm_H)) : Prop := match r with
  | .inl z => Qt z.1 z.2
  | .inr v => Qr (some (.long v.1)) v.2
def pt_eV (Qr : Option Value → pm_H → Prop) (Qt : Nat → pm_H → Prop) (r : (Nat × pm_H) ⊕ pm_H) : Prop := match r with
  | .inl z => Qt z.1 z.2
  | .inr v => Qr none v
def pt_k {α ρ : Type} (v : (Nat × pm_H) ⊕ α) (k : α → Option ((Nat × pm_H) ⊕ ρ)) : Option ((Nat × pm_H) ⊕ ρ) := match v with
  | .inl z => some (.inl z)
  | .inr w => k w
def pt_s {α ρ σ : Type} (v : (Nat × pm_H) ⊕ α) (k : α → Option (σ ⊕ ((Nat × pm_H) ⊕ ρ))) : Option (σ ⊕ ((Nat × pm_H) ⊕ ρ)) := match v with
  | .inl z => some (.inr (.inl z))
  | .inr w => k w
theorem pt_kr {α ρ : Type} {w : α} {k : α → Option ((Nat × pm_H) ⊕ ρ)} {r : Option ((Nat × pm_H) ⊕ ρ)} (h : pt_k (.inr w) k = r) : k w = r := h
theorem pt_sr {α ρ σ : Type} {w : α} {k : α → Option (σ ⊕ ((Nat × pm_H) ⊕ ρ))} {r : Option (σ ⊕ ((Nat × pm_H) ⊕ ρ))} (h : pt_s (.inr w) k = r) : k w = r := h
theorem pt_kl {α ρ : Type} {z : Nat × pm_H} {k : α → Option ((Nat × pm_H) ⊕ ρ)} {r : Option ((Nat × pm_H) ⊕ ρ)} (h : pt_k (.inl z) k = r) : some (.inl z) = r := h
theorem pt_sl {α ρ σ : Type} {z : Nat × pm_H} {k : α → Option (σ ⊕ ((Nat × pm_H) ⊕ ρ))} {r : Option (σ ⊕ ((Nat × pm_H) ⊕ ρ))} (h : pt_s (.inl z) k = r) : some (.inr (.inl z)) = r := h
