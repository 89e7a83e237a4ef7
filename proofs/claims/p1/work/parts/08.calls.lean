/-- what the tables say of a method of ours -/
def pm_My (M : pm_M) (n : Nat) : Prop := Cond.code M.1 M.2.1 M.2.2.1 M.2.2.2.1 ∈ lw_tbl ∧ Cond.initialized M.1.cls ∈ lw_tbl ∧ M.1.cls ≠ "java/lang/invoke/MethodHandle" ∧ M.1.cls ≠ "java/lang/invoke/VarHandle" ∧ (parseMethodDescriptor M.1.desc).map (fun d => d.parameters.length) = some n
/-- the link of a call -/
def pm_Ln (own : String) (i : Nat) (M : pm_M) : Prop := Cond.methodLink own i M.1 ∈ lw_tbl ∨ ∃ host, Cond.methodLinkNest own i M.1 host ∈ lw_tbl
def pm_Vi (M : pm_M) (c : Nat) : Prop := pm_Cl c ∧ M.1.cls = pm_Rn c ∧ Cond.instanceMethod M.1 ∈ lw_tbl ∧ Cond.selects (pm_Rn c) M.1 M.1 ∈ lw_tbl
def pm_St (M : pm_M) : Prop := Cond.static M.1 ∈ lw_tbl
def pm_Ii (M : pm_M) : Prop := M.1.name = "<init>" ∧ Cond.instanceMethod M.1 ∈ lw_tbl ∧ M.2.2.2.1 = none
/-- the callee fits into the caller's room -/
def pm_Fit (M M' : pm_M) : Prop := M'.2.2.2.2.1 + 1 ≤ M.2.2.2.2.1 ∧ 8 + (M'.2.2.1 + 11) + M'.2.2.2.2.2 ≤ M.2.2.2.2.2
theorem pm_tb_mem {w : Cond} (h : w ∈ lw_tbl) (hg : goodWord w = true) : w ∈ pm_tb := List.mem_filter.mpr ⟨h, hg⟩
theorem pm_tb_good {w : Cond} (h : w ∈ pm_tb) : (w.onTables && w.keeps) = true ∨ ∃ ty, w = .arrayClass ty := good_of_word (List.mem_filter.mp h).2
theorem pm_goodM {M : pm_M} {n : Nat} (hM : pm_My M n) : GoodIn pm_tb (pm_wsy M) := by
  intro w hw
  rcases List.mem_cons.mp hw with rfl | hw
  · have h := pm_tb_mem hM.1 rfl
    exact ⟨h, pm_tb_good h⟩
  · exact ⟨hw, pm_tb_good hw⟩
theorem pm_blind (G : pm_Gl) (as : List Value) (h : pm_H) : FrameBlind (pm_Pc G as h) := by
  intro a U f mk q
  obtain ⟨q0, q1, q2, q3⟩ := q
  exact ⟨q0, q1, va_K.moved (u := U) (U := U.calling f mk a) (Vm.Alike.refl U.vm) q2, pm_Nw.same (s := U) (U := U.calling f mk a) rfl rfl q3⟩
theorem pm_Pc_at {G : pm_Gl} {as : List Value} {h : pm_H} {s : State} {H : Heap} {locs : List Loc} (hR : pm_Rel G h H) (hK : va_K G.2.1 vwCl (pm_tys G.2.2) s) (hN : pm_Nw G s) (hS : va_S (fun q => G.1 ≤ q) s.heap H locs) : ∀ U : State, U.heap = H → s.WarmedH U.vm → pm_Pc G as h (as.map (pm_v G.1)).toArray U :=
  fun U hU hW => ⟨rfl, by rw [hU]; exact hR, va_K.moved hW.alike hK, hN.warm hW (fun a h1 h2 => by rw [hU]; exact hS.2.1 a h1 h2)⟩
section PMK
variable {p : Program} {l : Launch} {e : Env} {R : Room} {s : State} {m : MethodId} {args : Array Value} {below : List Frame} {meth : Method} {c : Code} {H : Heap} {locs : List Loc} {kc ks : Nat} {Q : State → Prop}
/-- behind a call -/
theorem pm_after {G : pm_Gl} {pc mc ms : Nat} {ls : Array Slot} {st0 st : List Value} {Qr : Option Value → pm_H → Prop} {a : Array Value}
    (hr : va_Run p l e R s m args below meth c H locs kc ks mc ms (F0 m pc ls st0) (st.map (pm_v G.1)) (pm_Qc G Qr a) (fun q => G.1 ≤ q)) (hS : va_S (fun q => G.1 ≤ q) s.heap H locs)
    (k : ∀ (v : Option Value) (h' : pm_H), Qr v h' → ∀ (H1 : Heap) (locs1 : List Loc), pm_Rel G h' H1 → va_S (fun q => G.1 ≤ q) s.heap H1 locs1 → W p l e R s m args below meth c H1 locs1 (kc + mc) (ks + ms) Q (F0 m (pc + 3) ls ((v.toList ++ st).map (pm_v G.1)))) :
    W p l e R s m args below meth c H locs kc ks Q (F0 m pc ls st0) := by
  intro T hT X
  obtain ⟨v, st₀, t, T', L, h0, X', hL, e1, e2, ⟨⟨v', h', hv, hq, hrel⟩, hz, hk⟩, stp⟩ := hr T hT X
  cases hv
  rw [h0] at hz hk
  have hS1 : va_S (fun q => G.1 ≤ q) s.heap T'.heap (locs ++ L) := ⟨Nat.le_trans hS.1 (by rw [e1]; exact hz), fun q h1 h2 => by rw [e1, hk q (Nat.lt_of_lt_of_le h1 hS.1) h2]; exact hS.2.1 q h1 h2, fun q hq => by
      rcases List.mem_append.mp hq with h | h
      · exact hS.2.2 q h
      · exact hL q h⟩
  obtain ⟨t2, a1, b1⟩ := k v' h' hq T'.heap (locs ++ L) (by rw [e1]; exact hrel) hS1 T' rfl X'
  refine ⟨t2, stp t2 ?_, b1⟩
  have es : (v'.map (pm_v G.1)).toList ++ st.map (pm_v G.1) = (v'.toList ++ st).map (pm_v G.1) := by cases v' <;> rfl
  rw [es]
  exact a1
end PMK
section PMC
variable {g : pm_Gm} {cc : ByteArray} {own : String} {pc : Nat} {lv : List (Nat × Value)} {st st0 : List Value} {h : pm_H} {kc ks : Nat} {l : Launch} {G : pm_Gl} {M M' : pm_M} {mc ms mc' ms' n : Nat} {Qr : Option Value → pm_H → Prop} {as : List Value}
theorem pm_catsum (b : Nat) (st : List Value) : ((st.map (pm_v b)).map fun v => v.category) = st.map fun v => v.category := by
  rw [List.map_map]
  exact List.map_congr_left (fun v _ => pm_v_cat b v)
theorem pm_callV (C : pm_C g cc own) (X : pm_X g l G M mc ms Qr) {i r c : Nat} (hd : decode cc pc = .ok (.invokevirtual i, 3)) (ln : pm_Ln own i M') (my : pm_My M' n) (vi : pm_Vi M' c) (fit : pm_Fit M M') (hst : st0 = as.reverse ++ .ref r :: st) (hn : as.length = n) (hk : pm_kd h r = c) (hcat : (st.map fun v => v.category).sum ≤ 8) (h1 : kc + mc' ≤ mc) (h2 : ks + ms' ≤ ms)
    (ct : pm_Ct l G M' (.ref r :: as) h mc' ms' (fun v h' => pm_G g (pc + 3) lv (v.toList ++ st) h' (kc + mc') (ks + ms'))) : pm_G g pc lv st0 h kc ks := by
  obtain ⟨p, l', e, R, s, m, args, below, meth, c', Q, G', nL⟩ := g
  obtain ⟨hx, hb, hts, hown, hml, hlocks, hK, hbs, hN⟩ := C
  obtain ⟨rfl, rfl, hQ, hr, rfl, hnL⟩ := X
  intro H locs ls hR hS hl
  have ht : ∀ w ∈ pm_tb, w.before args s = true := fun w hw => hts w (List.mem_filter.mp hw).1 (List.mem_filter.mp hw).2
  have he := pm_ws_at G' h (pm_live hR hk (Nat.ne_of_lt vi.1.1))
  rw [pm_E_obj hk (Nat.lt_succ_of_lt vi.1.1)] at he
  have hpre : PreV s H (pm_Rn c) (G'.1 + r) (pm_Pc G' (.ref r :: as) h) (as.map (pm_v G'.1)) := ⟨pm_blind _ _ _, va_recv hK hR.2.1 vi.1.2.1 he, pm_Pc_at (as := .ref r :: as) hR hK hN hS⟩
  have hstk : (st0.map (pm_v G'.1)) = (as.map (pm_v G'.1)).reverse ++ .ref (G'.1 + r) :: st.map (pm_v G'.1) := by
    rw [hst, List.map_append, List.map_reverse]
    rfl
  have hlen : (as.map (pm_v G'.1)).length = n := by rw [List.length_map]; exact hn
  have hroom := lv_room (m := m) (pc := pc) (ls := ls) (rest := st0.map (pm_v G'.1)) (st := st.map (pm_v G'.1)) (by rw [pm_catsum]; exact hcat)
  rcases ln with hw | ⟨host, hw⟩
  · have hT : GoodIn pm_tb (wsV own i (pm_Rn c) M'.1 (pm_wsy M')) := by
      intro w hw'
      have hini : Cond.initialized (pm_Rn c) ∈ lw_tbl := by rw [← vi.2.1]; exact my.2.1
      unfold wsV at hw'
      rcases List.mem_append.mp hw' with hq | hq
      · have hm : w ∈ pm_tb := by
          simp only [List.mem_cons, List.not_mem_nil, or_false] at hq
          rcases hq with rfl | rfl | rfl | rfl
          · exact pm_tb_mem hw rfl
          · exact pm_tb_mem vi.2.2.1 rfl
          · exact pm_tb_mem vi.2.2.2 rfl
          · exact pm_tb_mem hini rfl
        exact ⟨hm, pm_tb_good hm⟩
      · exact pm_goodM my w hq
    exact pm_after (va_runV (As := as.map (pm_v G'.1)) (rest := st.map (pm_v G'.1)) ⟨hx, hb, hml, hown, ht⟩ ct (cwV n ht hT rfl rfl rfl ⟨vi.2.1, my.2.2⟩ fit) hpre rfl hlen hl.1 hstk hroom hd ⟨h1, h2⟩) hS (fun v h' q H1 locs1 hR1 hS1 => q H1 locs1 ls hR1 hS1 hl)
  · exact pm_after (va_runVN (As := as.map (pm_v G'.1)) (rest := st.map (pm_v G'.1)) ⟨hx, hb, hml, hown, ht⟩ ct ⟨va_cnB n ht (pm_goodM my) rfl rfl rfl (hN.1 _ hw rfl) (hts _ my.2.1 rfl) my.2.2 fit, hts _ vi.2.2.1 rfl, hts _ vi.2.2.2 rfl⟩ hpre rfl hlen hl.1 hstk hroom hd ⟨h1, h2⟩) hS (fun v h' q H1 locs1 hR1 hS1 => q H1 locs1 ls hR1 hS1 hl)
theorem pm_callS (C : pm_C g cc own) (X : pm_X g l G M mc ms Qr) {i : Nat} (hd : decode cc pc = .ok (.invokestatic i, 3)) (ln : pm_Ln own i M') (my : pm_My M' n) (sd : pm_St M') (fit : pm_Fit M M') (hst : st0 = as.reverse ++ st) (hn : as.length = n) (hcat : (st.map fun v => v.category).sum ≤ 8) (h1 : kc + mc' ≤ mc) (h2 : ks + ms' ≤ ms)
    (ct : pm_Ct l G M' as h mc' ms' (fun v h' => pm_G g (pc + 3) lv (v.toList ++ st) h' (kc + mc') (ks + ms'))) : pm_G g pc lv st0 h kc ks := by
  obtain ⟨p, l', e, R, s, m, args, below, meth, c', Q, G', nL⟩ := g
  obtain ⟨hx, hb, hts, hown, hml, hlocks, hK, hbs, hN⟩ := C
  obtain ⟨rfl, rfl, hQ, hr, rfl, hnL⟩ := X
  intro H locs ls hR hS hl
  have ht : ∀ w ∈ pm_tb, w.before args s = true := fun w hw => hts w (List.mem_filter.mp hw).1 (List.mem_filter.mp hw).2
  have hpre : PreS s H (pm_Pc G' as h) (as.map (pm_v G'.1)) := ⟨pm_blind _ _ _, pm_Pc_at hR hK hN hS⟩
  have hstk : (st0.map (pm_v G'.1)) = (as.map (pm_v G'.1)).reverse ++ st.map (pm_v G'.1) := by
    rw [hst, List.map_append, List.map_reverse]
  have hlen : (as.map (pm_v G'.1)).length = n := by rw [List.length_map]; exact hn
  have hroom := lv_room (m := m) (pc := pc) (ls := ls) (rest := st0.map (pm_v G'.1)) (st := st.map (pm_v G'.1)) (by rw [pm_catsum]; exact hcat)
  rcases ln with hw | ⟨host, hw⟩
  · have hT : GoodIn pm_tb (va_wsS own i M'.1 (pm_wsy M')) := by
      intro w hw'
      unfold va_wsS at hw'
      rcases List.mem_append.mp hw' with hq | hq
      · have hm : w ∈ pm_tb := by
          simp only [List.mem_cons, List.not_mem_nil, or_false] at hq
          rcases hq with rfl | rfl | rfl
          · exact pm_tb_mem hw rfl
          · exact pm_tb_mem sd rfl
          · exact pm_tb_mem my.2.1 rfl
        exact ⟨hm, pm_tb_good hm⟩
      · exact pm_goodM my w hq
    exact pm_after (va_runS (As := as.map (pm_v G'.1)) (rest := st.map (pm_v G'.1)) ⟨hx, hb, hml, hown, ht⟩ ct (va_cwS n ht hT rfl rfl rfl my.2.2 fit) hpre rfl hlen hl.1 hstk hroom hd ⟨h1, h2⟩) hS (fun v h' q H1 locs1 hR1 hS1 => q H1 locs1 ls hR1 hS1 hl)
  · exact pm_after (va_runSN (As := as.map (pm_v G'.1)) (rest := st.map (pm_v G'.1)) ⟨hx, hb, hml, hown, ht⟩ ct ⟨va_cnB n ht (pm_goodM my) rfl rfl rfl (hN.1 _ hw rfl) (hts _ my.2.1 rfl) my.2.2 fit, hts _ sd rfl, trivial⟩ hpre rfl hlen hl.1 hstk hroom hd ⟨h1, h2⟩) hS (fun v h' q H1 locs1 hR1 hS1 => q H1 locs1 ls hR1 hS1 hl)
theorem pm_callI (C : pm_C g cc own) (X : pm_X g l G M mc ms Qr) {i r : Nat} (hd : decode cc pc = .ok (.invokespecial i, 3)) (ln : pm_Ln own i M') (my : pm_My M' n) (ii : pm_Ii M') (fit : pm_Fit M M') (hst : st0 = as.reverse ++ .ref r :: st) (hn : as.length = n) (hcat : (st.map fun v => v.category).sum ≤ 8) (h1 : kc + mc' ≤ mc) (h2 : ks + ms' ≤ ms)
    (ct : pm_Ct l G M' (.ref r :: as) h mc' ms' (fun v h' => pm_G g (pc + 3) lv (v.toList ++ st) h' (kc + mc') (ks + ms'))) : pm_G g pc lv st0 h kc ks := by
  obtain ⟨p, l', e, R, s, m, args, below, meth, c', Q, G', nL⟩ := g
  obtain ⟨hx, hb, hts, hown, hml, hlocks, hK, hbs, hN⟩ := C
  obtain ⟨rfl, rfl, hQ, hr, rfl, hnL⟩ := X
  intro H locs ls hR hS hl
  have ht : ∀ w ∈ pm_tb, w.before args s = true := fun w hw => hts w (List.mem_filter.mp hw).1 (List.mem_filter.mp hw).2
  have hpre : PreS s H (pm_Pc G' (.ref r :: as) h) (.ref (G'.1 + r) :: as.map (pm_v G'.1)) := ⟨pm_blind _ _ _, pm_Pc_at (as := .ref r :: as) hR hK hN hS⟩
  have hstk : (st0.map (pm_v G'.1)) = (as.map (pm_v G'.1)).reverse ++ .ref (G'.1 + r) :: st.map (pm_v G'.1) := by
    rw [hst, List.map_append, List.map_reverse]
    rfl
  have hlen : (as.map (pm_v G'.1)).length = n := by rw [List.length_map]; exact hn
  have hroom := lv_room (m := m) (pc := pc) (ls := ls) (rest := st0.map (pm_v G'.1)) (st := st.map (pm_v G'.1)) (by rw [pm_catsum]; exact hcat)
  have hw0 : pm_wsy M' = Cond.code M'.1 M'.2.1 M'.2.2.1 none :: pm_tb := by unfold pm_wsy; rw [ii.2.2]
  rcases ln with hw | ⟨host, hw⟩
  · exact pm_after (va_runI (As := as.map (pm_v G'.1)) (rest := st.map (pm_v G'.1)) ⟨hx, hb, hml, hown, ht⟩ ct (cwI n ht (pm_goodM my) hw0 rfl rfl (hts _ my.2.1 rfl) (hts _ hw rfl) (hts _ ii.2.1 rfl) ii.1 my.2.2 fit) hpre rfl hlen hl.1 hstk hroom hd ⟨h1, h2⟩) hS (fun v h' q H1 locs1 hR1 hS1 => q H1 locs1 ls hR1 hS1 hl)
  · exact pm_after (va_runIN (As := as.map (pm_v G'.1)) (rest := st.map (pm_v G'.1)) ⟨hx, hb, hml, hown, ht⟩ ct ⟨va_cnB n ht (pm_goodM my) hw0 rfl rfl (hN.1 _ hw rfl) (hts _ my.2.1 rfl) my.2.2 fit, ii.1, hts _ ii.2.1 rfl⟩ hpre rfl hlen hl.1 hstk hroom hd ⟨h1, h2⟩) hS (fun v h' q H1 locs1 hR1 hS1 => q H1 locs1 ls hR1 hS1 hl)
theorem pm_obj (C : pm_C g cc own) (X : pm_X g l G M mc ms Qr) {i r : Nat} (hd : decode cc pc = .ok (.invokespecial i, 3)) (w1 : Cond.methodLink own i objectInit ∈ lw_tbl) (w2 : Cond.instanceMethod objectInit ∈ lw_tbl) (w3 : Cond.code objectInit ⟨#[0xb1]⟩ 1 none ∈ lw_tbl) (h1 : 1 ≤ M.2.2.2.2.1) (h2 : 20 ≤ M.2.2.2.2.2) (hcat : (st.map fun v => v.category).sum ≤ 8) (kk : pm_G g (pc + 3) lv st h kc ks) : pm_G g pc lv (.ref r :: st) h kc ks := by
  obtain ⟨p, l', e, R, s, m, args, below, meth, c', Q, G', nL⟩ := g
  obtain ⟨hx, hb, hts, hown, hml, hlocks, hK, hbs, hN⟩ := C
  obtain ⟨rfl, rfl, hQ, hr, rfl, hnL⟩ := X
  intro H locs ls hR hS hl
  refine W.objInit hx hb hown (hts _ w1 rfl) (hts _ w2 rfl) (hts _ w3 rfl) rfl (by rw [hml]; exact hl.1) rfl hd h1 ?_ (kk H locs ls hR hS hl)
  show 2 * 0 + ((st.map (pm_v G'.1)).map fun v => v.category).sum + 12 ≤ M.2.2.2.2.2
  rw [pm_catsum]
  omega
end PMC
