theorem sfJ0_38 : Cond.fieldLink RJ0 38 "java/lang/String" "COMPACT_STRINGS" "Z" ∈ lw_tbl := pm_tin6 _ (List.mem_of_getElem? (i := 76) rfl)
theorem sfJ0_1053 : Cond.fieldLink RJ0 1053 "jdk/internal/util/Preconditions" "SIOOBE_FORMATTER" "Ljava/util/function/BiFunction;" ∈ lw_tbl := pm_tin6 _ (List.mem_of_getElem? (i := 84) rfl)
theorem sfJ0_15 : Cond.fieldLink RJ0 15 "java/lang/String" "coder" "B" ∈ lw_tbl := pm_tin15 _ (List.mem_of_getElem? (i := 122) rfl)
theorem sfJ0_9 : Cond.fieldLink RJ0 9 "java/lang/String" "value" "[B" ∈ lw_tbl := pm_tin15 _ (List.mem_of_getElem? (i := 123) rfl)
theorem sfX9_37 : Cond.fieldLink RX9 37 "ModuleEngine$Reader" "BEGINNING" "[I" ∈ lw_tbl := pm_tin4 _ (List.mem_of_getElem? (i := 47) rfl)
theorem lnJ0_492 : pm_Ln RJ0 492 mJ0_isLatin1_aae02 := Or.inl (pm_tin6 _ (List.mem_of_getElem? (i := 72) rfl))
theorem lnJ0_495 : pm_Ln RJ0 495 mJ1_charAt_3b067 := Or.inl (pm_tin6 _ (List.mem_of_getElem? (i := 78) rfl))
theorem lnJ1_9 : pm_Ln RJ1 9 mJ0_checkIndex_df160 := Or.inl (pm_tin6 _ (List.mem_of_getElem? (i := 81) rfl))
theorem lnJ0_1059 : pm_Ln RJ0 1059 mJ3_checkIndex_8e157 := Or.inl (pm_tin6 _ (List.mem_of_getElem? (i := 86) rfl))
theorem ltX6_30 : Cond.methodLink RX6 30 mJ0_charAt_5068e.1 ∈ lw_tbl := pm_tin6 _ (List.mem_of_getElem? (i := 68) rfl)
theorem ltX8_19 : Cond.methodLink RX8 19 mJ0_charAt_5068e.1 ∈ lw_tbl := pm_tin6 _ (List.mem_of_getElem? (i := 121) rfl)
theorem ltJ0_492 : Cond.methodLink RJ0 492 mJ0_isLatin1_aae02.1 ∈ lw_tbl := pm_tin6 _ (List.mem_of_getElem? (i := 72) rfl)
theorem dJ0_charAt_5068e_0 : decode cJ0_charAt_5068e 0 = .ok (.aload_n 0, 1) := by decide +kernel
theorem dJ0_charAt_5068e_1 : decode cJ0_charAt_5068e 1 = .ok (.invokevirtual 492, 3) := by decide +kernel
theorem dJ0_charAt_5068e_4 : decode cJ0_charAt_5068e 4 = .ok (.ifCond .eq 12, 3) := by decide +kernel
theorem dJ0_charAt_5068e_7 : decode cJ0_charAt_5068e 7 = .ok (.aload_n 0, 1) := by decide +kernel
theorem dJ0_charAt_5068e_8 : decode cJ0_charAt_5068e 8 = .ok (.getfield 9, 3) := by decide +kernel
theorem dJ0_charAt_5068e_11 : decode cJ0_charAt_5068e 11 = .ok (.iload_n 1, 1) := by decide +kernel
theorem dJ0_charAt_5068e_12 : decode cJ0_charAt_5068e 12 = .ok (.invokestatic 495, 3) := by decide +kernel
theorem dJ0_charAt_5068e_15 : decode cJ0_charAt_5068e 15 = .ok (.ireturn, 1) := by decide +kernel
theorem dJ0_isLatin1_aae02_0 : decode cJ0_isLatin1_aae02 0 = .ok (.getstatic 38, 3) := by decide +kernel
theorem dJ0_isLatin1_aae02_3 : decode cJ0_isLatin1_aae02 3 = .ok (.ifCond .eq 14, 3) := by decide +kernel
theorem dJ0_isLatin1_aae02_6 : decode cJ0_isLatin1_aae02 6 = .ok (.aload_n 0, 1) := by decide +kernel
theorem dJ0_isLatin1_aae02_7 : decode cJ0_isLatin1_aae02 7 = .ok (.getfield 15, 3) := by decide +kernel
theorem dJ0_isLatin1_aae02_10 : decode cJ0_isLatin1_aae02 10 = .ok (.ifCond .ne 7, 3) := by decide +kernel
theorem dJ0_isLatin1_aae02_13 : decode cJ0_isLatin1_aae02 13 = .ok (.iconst 1, 1) := by decide +kernel
theorem dJ0_isLatin1_aae02_14 : decode cJ0_isLatin1_aae02 14 = .ok (.goto 4, 3) := by decide +kernel
theorem dJ0_isLatin1_aae02_18 : decode cJ0_isLatin1_aae02 18 = .ok (.ireturn, 1) := by decide +kernel
theorem dJ1_charAt_3b067_0 : decode cJ1_charAt_3b067 0 = .ok (.iload_n 1, 1) := by decide +kernel
theorem dJ1_charAt_3b067_1 : decode cJ1_charAt_3b067 1 = .ok (.aload_n 0, 1) := by decide +kernel
theorem dJ1_charAt_3b067_2 : decode cJ1_charAt_3b067 2 = .ok (.arraylength, 1) := by decide +kernel
theorem dJ1_charAt_3b067_3 : decode cJ1_charAt_3b067 3 = .ok (.invokestatic 9, 3) := by decide +kernel
theorem dJ1_charAt_3b067_6 : decode cJ1_charAt_3b067 6 = .ok (.aload_n 0, 1) := by decide +kernel
theorem dJ1_charAt_3b067_7 : decode cJ1_charAt_3b067 7 = .ok (.iload_n 1, 1) := by decide +kernel
theorem dJ1_charAt_3b067_8 : decode cJ1_charAt_3b067 8 = .ok (.baload, 1) := by decide +kernel
theorem dJ1_charAt_3b067_9 : decode cJ1_charAt_3b067 9 = .ok (.sipush 255, 3) := by decide +kernel
theorem dJ1_charAt_3b067_12 : decode cJ1_charAt_3b067 12 = .ok (.iand, 1) := by decide +kernel
theorem dJ1_charAt_3b067_13 : decode cJ1_charAt_3b067 13 = .ok (.i2c, 1) := by decide +kernel
theorem dJ1_charAt_3b067_14 : decode cJ1_charAt_3b067 14 = .ok (.ireturn, 1) := by decide +kernel
theorem dJ0_checkIndex_df160_0 : decode cJ0_checkIndex_df160 0 = .ok (.iload_n 0, 1) := by decide +kernel
theorem dJ0_checkIndex_df160_1 : decode cJ0_checkIndex_df160 1 = .ok (.iload_n 1, 1) := by decide +kernel
theorem dJ0_checkIndex_df160_2 : decode cJ0_checkIndex_df160 2 = .ok (.getstatic 1053, 3) := by decide +kernel
theorem dJ0_checkIndex_df160_5 : decode cJ0_checkIndex_df160 5 = .ok (.invokestatic 1059, 3) := by decide +kernel
theorem dJ0_checkIndex_df160_8 : decode cJ0_checkIndex_df160 8 = .ok (.pop, 1) := by decide +kernel
theorem dJ0_checkIndex_df160_9 : decode cJ0_checkIndex_df160 9 = .ok (.return_, 1) := by decide +kernel
theorem dJ3_checkIndex_8e157_0 : decode cJ3_checkIndex_8e157 0 = .ok (.iload_n 0, 1) := by decide +kernel
theorem dJ3_checkIndex_8e157_1 : decode cJ3_checkIndex_8e157 1 = .ok (.ifCond .lt 8, 3) := by decide +kernel
theorem dJ3_checkIndex_8e157_4 : decode cJ3_checkIndex_8e157 4 = .ok (.iload_n 0, 1) := by decide +kernel
theorem dJ3_checkIndex_8e157_5 : decode cJ3_checkIndex_8e157 5 = .ok (.iload_n 1, 1) := by decide +kernel
theorem dJ3_checkIndex_8e157_6 : decode cJ3_checkIndex_8e157 6 = .ok (.if_icmp .lt 10, 3) := by decide +kernel
theorem dJ3_checkIndex_8e157_16 : decode cJ3_checkIndex_8e157 16 = .ok (.iload_n 0, 1) := by decide +kernel
theorem dJ3_checkIndex_8e157_17 : decode cJ3_checkIndex_8e157 17 = .ok (.ireturn, 1) := by decide +kernel
theorem wiJ0_charAt_5068e : Cond.instanceMethod yJ0_charAt_5068e ∈ lw_tbl := pm_tin6 _ (List.mem_of_getElem? (i := 69) rfl)
theorem wvJ0_charAt_5068e : Cond.selects "java/lang/String" yJ0_charAt_5068e yJ0_charAt_5068e ∈ lw_tbl := pm_tin6 _ (List.mem_of_getElem? (i := 70) rfl)
theorem wiJ0_isLatin1_aae02 : Cond.instanceMethod yJ0_isLatin1_aae02 ∈ lw_tbl := pm_tin6 _ (List.mem_of_getElem? (i := 73) rfl)
theorem wvJ0_isLatin1_aae02 : Cond.selects "java/lang/String" yJ0_isLatin1_aae02 yJ0_isLatin1_aae02 ∈ lw_tbl := pm_tin6 _ (List.mem_of_getElem? (i := 74) rfl)
section PML
variable {g : pm_Gm} {cc : ByteArray} {own : String} {pc : Nat} {lv : List (Nat × Value)} {st st0 : List Value} {h : pm_H} {kc ks : Nat} {l : Launch} {G : pm_Gl} {M M' : pm_M} {mc ms mc' ms' n : Nat} {Qr : Option Value → pm_H → Prop} {as : List Value}
theorem pm_gets0 (C : pm_C g cc own) (X : pm_X g l G M mc ms Qr) {i : Nat} {C' n d : String} {w : Value} (hd : decode cc pc = .ok (.getstatic i, 3)) (hw : Cond.fieldLink own i C' n d ∈ lw_tbl) (hZ : ∀ s : State, pm_Nw G s → va_Z C' n d (pm_v G.1 w) (fun q => G.1 ≤ q) s s.heap) (kk : pm_G g (pc + 3) lv (w :: st) h kc ks) : pm_G g pc lv st h kc ks := by
  obtain ⟨p, l', e, R, s, m, args, below, meth, c', Q, G', nL⟩ := g
  obtain ⟨hx, hb, hts, hown, hml, hlocks, hK, hbs, hN⟩ := C
  obtain ⟨rfl, rfl, hQ, hr, rfl, hnL⟩ := X
  intro H locs ls hR hS hl
  exact va_gets hx hb (hZ s hN) hS hown (hts _ hw rfl) (fun _ q => q) hd (kk H locs ls hR hS hl)
theorem pm_getsQ (C : pm_C g cc own) (X : pm_X g l G M mc ms Qr) {i : Nat} {C' n d : String} (hd : decode cc pc = .ok (.getstatic i, 3)) (hw : Cond.fieldLink own i C' n d ∈ lw_tbl) (hZ : ∀ s : State, pm_Nw G s → va_Zq C' n d (fun q => G.1 ≤ q) s s.heap) (kk : ∀ w : Value, w = .null ∨ (∃ t, w = .retAddr t) → pm_G g (pc + 3) lv (w :: st) h kc ks) : pm_G g pc lv st h kc ks := by
  obtain ⟨p, l', e, R, s, m, args, below, meth, c', Q, G', nL⟩ := g
  obtain ⟨hx, hb, hts, hown, hml, hlocks, hK, hbs, hN⟩ := C
  obtain ⟨rfl, rfl, hQ, hr, rfl, hnL⟩ := X
  intro H locs ls hR hS hl
  rcases hZ s hN with q | ⟨t, q⟩
  · exact va_gets hx hb q hS hown (hts _ hw rfl) (fun _ q => q) hd (kk .null (Or.inl rfl) H locs ls hR hS hl)
  · exact va_gets hx hb q hS hown (hts _ hw rfl) (fun _ q => q) hd (kk (.retAddr t) (Or.inr ⟨t, rfl⟩) H locs ls hR hS hl)
theorem pm_tlen (C : pm_C g cc own) (X : pm_X g l G M mc ms Qr) {t N : Nat} {ty : FieldType} {f : Nat → Value} {v : Int32} (hd : decode cc pc = .ok (.arraylength, 1)) (hT : ∀ s : State, pm_Nw G s → va_T ty t N f (fun q => G.1 ≤ q) s s.heap) (hv : Int32.ofNat N = v) (kk : pm_G g (pc + 1) lv (.int v :: st) h kc ks) : pm_G g pc lv (.retAddr t :: st) h kc ks := by
  obtain ⟨p, l', e, R, s, m, args, below, meth, c', Q, G', nL⟩ := g
  obtain ⟨hx, hb, hts, hown, hml, hlocks, hK, hbs, hN⟩ := C
  obtain ⟨rfl, rfl, hQ, hr, rfl, hnL⟩ := X
  intro H locs ls hR hS hl
  exact va_tlen hx hb (hT s hN) hS hv hd (kk H locs ls hR hS hl)
theorem pm_tiald (C : pm_C g cc own) (X : pm_X g l G M mc ms Qr) {t N : Nat} {f : Nat → Int32} {i : Int32} (hd : decode cc pc = .ok (.iaload, 1)) (hT : ∀ s : State, pm_Nw G s → va_T .int t N (fun j => .int (f j)) (fun q => G.1 ≤ q) s s.heap) (hin : pm_in i N) (kk : pm_G g (pc + 1) lv (.int (f i.toNatClampNeg) :: st) h kc ks) : pm_G g pc lv (.int i :: .retAddr t :: st) h kc ks := by
  obtain ⟨p, l', e, R, s, m, args, below, meth, c', Q, G', nL⟩ := g
  obtain ⟨hx, hb, hts, hown, hml, hlocks, hK, hbs, hN⟩ := C
  obtain ⟨rfl, rfl, hQ, hr, rfl, hnL⟩ := X
  intro H locs ls hR hS hl
  exact va_ti hx hb (hT s hN) hS hin rfl hd (kk H locs ls hR hS hl)
theorem pm_tbald (C : pm_C g cc own) (X : pm_X g l G M mc ms Qr) {t N : Nat} {f : Nat → Int32} {i : Int32} (hd : decode cc pc = .ok (.baload, 1)) (hT : ∀ s : State, pm_Nw G s → va_T .byte t N (fun j => .int (f j)) (fun q => G.1 ≤ q) s s.heap) (hin : pm_in i N) (kk : pm_G g (pc + 1) lv (.int (f i.toNatClampNeg) :: st) h kc ks) : pm_G g pc lv (.int i :: .retAddr t :: st) h kc ks := by
  obtain ⟨p, l', e, R, s, m, args, below, meth, c', Q, G', nL⟩ := g
  obtain ⟨hx, hb, hts, hown, hml, hlocks, hK, hbs, hN⟩ := C
  obtain ⟨rfl, rfl, hQ, hr, rfl, hnL⟩ := X
  intro H locs ls hR hS hl
  exact va_tb hx hb (hT s hN) hS hin rfl hd (kk H locs ls hR hS hl)
theorem pm_tget (C : pm_C g cc own) (X : pm_X g l G M mc ms Qr) {i t : Nat} {o n d : String} {w : Value} (hd : decode cc pc = .ok (.getfield i, 3)) (hw : Cond.fieldLink own i o n d ∈ lw_tbl) (hE : ∀ s : State, pm_Nw G s → va_OF o n d (pm_v G.1 w) t (fun q => G.1 ≤ q) s s.heap) (kk : pm_G g (pc + 3) lv (w :: st) h kc ks) : pm_G g pc lv (.retAddr t :: st) h kc ks := by
  obtain ⟨p, l', e, R, s, m, args, below, meth, c', Q, G', nL⟩ := g
  obtain ⟨hx, hb, hts, hown, hml, hlocks, hK, hbs, hN⟩ := C
  obtain ⟨rfl, rfl, hQ, hr, rfl, hnL⟩ := X
  intro H locs ls hR hS hl
  exact vk_getf hx hb (hE s hN) hS hown (hts _ hw rfl) (fun _ q => q) hd (kk H locs ls hR hS hl)
theorem pm_ldcS (C : pm_C g cc own) (X : pm_X g l G M mc ms Qr) {i ix : Nat} (hd : decode cc pc = .ok (.ldc ix, 2)) (hi : i < 4) (ho : (pm_sow i).1 = own) (hj : (pm_sow i).2.1 = ix) (kk : pm_G g (pc + 2) lv (.retAddr (G.2.2 (100 + i)) :: st) h kc ks) : pm_G g pc lv st h kc ks := by
  subst ho; subst hj
  obtain ⟨p, l', e, R, s, m, args, below, meth, c', Q, G', nL⟩ := g
  obtain ⟨hx, hb, hts, hown, hml, hlocks, hK, hbs, hN⟩ := C
  obtain ⟨rfl, rfl, hQ, hr, rfl, hnL⟩ := X
  intro H locs ls hR hS hl
  exact va_ldcS hx hb hown (hN.2.2.2.2.1.1 i hi) hd (kk H locs ls hR hS hl)
theorem pm_aloadT (C : pm_C g cc own) {q : Fin 4} {i : Nat} {x : Nat} (hd : decode cc pc = .ok (.aload_n q, 1)) (hi : (q : Nat) = i) (hv : lv.lookup i = some (.retAddr x)) (k : pm_G g (pc + 1) lv (.retAddr x :: st) h kc ks) : pm_G g pc lv (st) h kc ks := by
  obtain ⟨p, l, e, R, s, m, args, below, meth, c, Q, G, nL⟩ := g
  obtain ⟨hx, hb, hts, hown, hml, hlocks, hK, hbs, hN⟩ := C
  intro H locs ls hR hS hl
  exact lv_aload_n hx hb hd hi (pm_look hl hv) (k H locs ls hR hS hl)
theorem pm_cret (C : pm_C g cc own) (X : pm_X g l G M mc ms Qr) {v : Int32} (hd : decode cc pc = .ok (.ireturn, 1)) (hM : M.2.2.2.1 = some .char) (hn : narrow .char (.int v) = .int v) (h1 : kc ≤ mc) (h2 : ks ≤ ms) (q : Qr (some (.int v)) h) : pm_G g pc lv [.int v] h kc ks := by
  obtain ⟨p, l', e, R, s, m, args, below, meth, c, Q, G', nL⟩ := g
  obtain ⟨hx, hb, hts, hown, hml, hlocks, hK, hbs, hN⟩ := C
  obtain ⟨rfl, rfl, rfl, hr, hRm, hnL⟩ := X
  intro H locs ls hR hS hl
  refine W.widen h1 h2 ?_
  exact W.zret hx hb (hr.trans hM) hn (fun t ht _ => ⟨⟨some (.int v), h, rfl, q, by rw [ht]; exact hR⟩, hS.F ht⟩) hS.2.2 hd
/-- a call on one of the String constants -/
theorem pm_callK (C : pm_C g cc own) (X : pm_X g l G M mc ms Qr) {i j : Nat} (hd : decode cc pc = .ok (.invokevirtual i, 3)) (hw : Cond.methodLink own i M'.1 ∈ lw_tbl) (my : pm_My M' n) (hcl : M'.1.cls = "java/lang/String") (wi : Cond.instanceMethod M'.1 ∈ lw_tbl) (wv : Cond.selects "java/lang/String" M'.1 M'.1 ∈ lw_tbl) (fit : pm_Fit M M') (hj : j < 4) (hst : st0 = as.reverse ++ .retAddr (G.2.2 (100 + j)) :: st) (hn : as.length = n) (hcat : (st.map fun v => v.category).sum ≤ 8) (h1 : kc + mc' ≤ mc) (h2 : ks + ms' ≤ ms)
    (ct : pm_Ct l G M' (.retAddr (G.2.2 (100 + j)) :: as) h mc' ms' (fun v h' => pm_G g (pc + 3) lv (v.toList ++ st) h' (kc + mc') (ks + ms'))) : pm_G g pc lv st0 h kc ks := by
  obtain ⟨p, l', e, R, s, m, args, below, meth, c', Q, G', nL⟩ := g
  obtain ⟨hx, hb, hts, hown, hml, hlocks, hK, hbs, hN⟩ := C
  obtain ⟨rfl, rfl, hQ, hr, rfl, hnL⟩ := X
  intro H locs ls hR hS hl
  have ht : ∀ w ∈ pm_tb, w.before args s = true := fun w hw => hts w (List.mem_filter.mp hw).1 (List.mem_filter.mp hw).2
  have hpre : PreV s H "java/lang/String" (G'.2.2 (100 + j)) (pm_Pc G' (.retAddr (G'.2.2 (100 + j)) :: as) h) (as.map (pm_v G'.1)) := ⟨pm_blind _ _ _, vk_recv (adK := fun i => G'.2.2 (100 + i)) (i := j) hN.2.2.2.2.1.2.1 hj hS, pm_Pc_at (as := .retAddr (G'.2.2 (100 + j)) :: as) hR hK hN hS⟩
  have hstk : (st0.map (pm_v G'.1)) = (as.map (pm_v G'.1)).reverse ++ .ref (G'.2.2 (100 + j)) :: st.map (pm_v G'.1) := by
    rw [hst, List.map_append, List.map_reverse]
    rfl
  have hlen : (as.map (pm_v G'.1)).length = n := by rw [List.length_map]; exact hn
  have hroom := lv_room (m := m) (pc := pc) (ls := ls) (rest := st0.map (pm_v G'.1)) (st := st.map (pm_v G'.1)) (by rw [pm_catsum]; exact hcat)
  have hT : GoodIn pm_tb (wsV own i "java/lang/String" M'.1 (pm_wsy M')) := by
    intro w hw'
    have hini : Cond.initialized "java/lang/String" ∈ lw_tbl := by rw [← hcl]; exact my.2.1
    unfold wsV at hw'
    rcases List.mem_append.mp hw' with hq | hq
    · have hm : w ∈ pm_tb := by
        simp only [List.mem_cons, List.not_mem_nil, or_false] at hq
        rcases hq with rfl | rfl | rfl | rfl
        · exact pm_tb_mem hw rfl
        · exact pm_tb_mem wi rfl
        · exact pm_tb_mem wv rfl
        · exact pm_tb_mem hini rfl
      exact ⟨hm, pm_tb_good hm⟩
    · exact pm_goodM my w hq
  exact pm_after (va_runV (As := as.map (pm_v G'.1)) (rest := st.map (pm_v G'.1)) ⟨hx, hb, hml, hown, ht⟩ ct (cwV n ht hT rfl rfl rfl ⟨hcl, my.2.2⟩ fit) hpre rfl hlen hl.1 hstk hroom hd ⟨h1, h2⟩) hS (fun v h' q H1 locs1 hR1 hS1 => q H1 locs1 ls hR1 hS1 hl)
theorem pm_callS9 (C : pm_C g cc own) (X : pm_X g l G M mc ms Qr) {i : Nat} (hd : decode cc pc = .ok (.invokestatic i, 3)) (ln : ∃ host, Cond.methodLinkNest own i M'.1 host ∈ lw_tbl) (my : pm_My M' n) (sd : pm_St M') (fit : M'.2.2.2.2.1 + 1 ≤ M.2.2.2.2.1 ∧ 16 + (M'.2.2.1 + 11) + M'.2.2.2.2.2 ≤ M.2.2.2.2.2) (hst : st0 = as.reverse ++ st) (hn : as.length = n) (hcat : (st.map fun v => v.category).sum ≤ 16) (h1 : kc + mc' ≤ mc) (h2 : ks + ms' ≤ ms)
    (ct : pm_Ct l G M' as h mc' ms' (fun v h' => pm_G g (pc + 3) lv (v.toList ++ st) h' (kc + mc') (ks + ms'))) : pm_G g pc lv st0 h kc ks := by
  obtain ⟨p, l', e, R, s, m, args, below, meth, c', Q, G', nL⟩ := g
  obtain ⟨hx, hb, hts, hown, hml, hlocks, hK, hbs, hN⟩ := C
  obtain ⟨rfl, rfl, hQ, hr, rfl, hnL⟩ := X
  intro H locs ls hR hS hl
  obtain ⟨host, hw⟩ := ln
  have ht : ∀ w ∈ pm_tb, w.before args s = true := fun w hw => hts w (List.mem_filter.mp hw).1 (List.mem_filter.mp hw).2
  have hstk : (st0.map (pm_v G'.1)) = (as.map (pm_v G'.1)).reverse ++ st.map (pm_v G'.1) := by
    rw [hst, List.map_append, List.map_reverse]
  have hlen : (as.map (pm_v G'.1)).length = n := by rw [List.length_map]; exact hn
  have hK9 : Back l' (pm_rm M mc ms) p e below s args M'.1 3 16 (PreOf (pm_rm M mc ms) mc' ms' (pm_Pc G' as h)) (PostOf (pm_Qc G' (fun v h' => pm_G (p, l', e, pm_rm M mc ms, s, m, args, below, meth, c', Q, G', nL) (pc + 3) lv (v.toList ++ st) h' (kc + mc') (ks + ms'))) mc' ms' (fun q => G'.1 ≤ q)) :=
    back_of (bytes := M'.2.1) (maxL := M'.2.2.1) (ret := M'.2.2.2.1) ct (pm_blind _ _ _) rfl rfl fit.1 fit.2 (pay_in ht (pm_goodM my)) List.mem_cons_self (fun a' U hW => word_at hW (Or.inl rfl) (hts _ my.2.1 rfl))
  refine pm_after (G := G') (Qr := fun v h' => pm_G (p, l', e, pm_rm M mc ms, s, m, args, below, meth, c', Q, G', nL) (pc + 3) lv (v.toList ++ st) h' (kc + mc') (ks + ms')) (a := (as.map (pm_v G'.1)).toArray) (st := st) ?_ hS (fun v h' q H1 locs1 hR1 hS1 => q H1 locs1 ls hR1 hS1 hl)
  intro T hT X
  obtain ⟨v, vm₁, ⟨U', l2, c2, s2⟩, hW₁, X', ⟨g', mk, t, L, e1, e2, hq, h1', hL, h2', h3'⟩, st'⟩ := va_callSN X hx (bytes := M'.2.1) (maxL := M'.2.2.1) (ret := M'.2.2.2.1) hown (va_Nw.use rfl (hN.1 _ hw rfl)) (hts _ sd rfl) (hts _ my.2.1 rfl) (hts _ my.1 rfl) ⟨my.2.2.1, my.2.2.2.1⟩ hK9 (g := F0 m pc ls (st0.map (pm_v G'.1))) rfl (by rw [hml]; exact hl.1) (argsL := as.map (pm_v G'.1)) (rest := st.map (pm_v G'.1)) (fun sig hsig => by
      have h9 := my.2.2.2.2
      rw [hsig] at h9
      exact hlen.trans (Option.some.inj h9).symm) hstk (by show 2 * 0 + _ ≤ 16; rw [pm_catsum]; omega) (by rw [hb]; exact hd)
    (fun vm₁ hW₁ => ⟨h1, h2, pm_Pc_at hR hK hN hS (T.setVm vm₁) hT hW₁⟩)
  dsimp only [Pt.U, Pt.locs, Pt.cells, Pt.slots] at X' e1 e2 h1' h2' h3' st'
  subst h1'; subst h2'; subst h3'
  exact ⟨v, (T.setVm vm₁).calling g' mk (as.map (pm_v G'.1)).toArray, t, U', L, hT, X', hL, e1, e2, hq, st'⟩
end PML
theorem ctJ3_checkIndex_8e157 {l : Launch} {G : pm_Gl} {h : pm_H} {i n : Int32} {w : Value} {Qr : Option Value → pm_H → Prop} (h0 : ¬ i < 0) (h1 : i < n) (hw : w = .null ∨ ∃ t, w = .retAddr t) (q : Qr (some (.int i)) h) : pm_Ct l G mJ3_checkIndex_8e157 [.int i, .int n, w] h 0 0 Qr := by
  refine pm_body pnJ3 (by rcases hw with rfl | ⟨t, rfl⟩ <;> exact Nat.le_of_ble_eq_true rfl) (fun g C X => ?_)
  have C : pm_C g cJ3_checkIndex_8e157 RJ3 := C
  show pm_G g 0 [(0, .int i), (1, .int n), (2, w)] [] h 0 0
  refine pm_iload_n C dJ3_checkIndex_8e157_0 rfl rfl ?_
  refine pm_if_lt (tgt := 9) C dJ3_checkIndex_8e157_1 (by decide) (fun c => absurd c h0) (fun _ => ?_)
  refine pm_iload_n C dJ3_checkIndex_8e157_4 rfl rfl ?_
  refine pm_iload_n C dJ3_checkIndex_8e157_5 rfl rfl ?_
  refine pm_icmp_lt (tgt := 16) C dJ3_checkIndex_8e157_6 (by decide) (fun _ => ?_) (fun c => absurd h1 c)
  refine pm_iload_n C dJ3_checkIndex_8e157_16 rfl rfl ?_
  exact pm_iret C X dJ3_checkIndex_8e157_17 rfl (Nat.le_refl _) (Nat.le_refl _) q
theorem ctJ0_checkIndex_df160 {l : Launch} {G : pm_Gl} {h : pm_H} {i n : Int32} {Qr : Option Value → pm_H → Prop} (h0 : ¬ i < 0) (h1 : i < n) (q : Qr none h) : pm_Ct l G mJ0_checkIndex_df160 [.int i, .int n] h 0 0 Qr := by
  refine pm_body pnJ0 (Nat.le_of_ble_eq_true rfl) (fun g C X => ?_)
  have C : pm_C g cJ0_checkIndex_df160 RJ0 := C
  show pm_G g 0 [(0, .int i), (1, .int n)] [] h 0 0
  refine pm_iload_n C dJ0_checkIndex_df160_0 rfl rfl ?_
  refine pm_iload_n C dJ0_checkIndex_df160_1 rfl rfl ?_
  refine pm_getsQ C X dJ0_checkIndex_df160_2 sfJ0_1053 (fun s hN => hN.2.2.2.2.1.2.2.2) (fun w hw => ?_)
  refine pm_callS (as := [.int i, .int n, w]) (st := []) C X dJ0_checkIndex_df160_5 lnJ0_1059 myJ3_checkIndex_8e157 stJ3_checkIndex_8e157 ⟨by decide, by decide⟩ rfl rfl (Nat.le_of_ble_eq_true rfl) (Nat.le_refl _) (Nat.le_refl _) (ctJ3_checkIndex_8e157 h0 h1 hw ?_)
  show pm_G g 8 [(0, .int i), (1, .int n)] [.int i] h 0 0
  refine pm_pop C dJ0_checkIndex_df160_8 rfl ?_
  exact pm_vret C X dJ0_checkIndex_df160_9 rfl (Nat.le_refl _) (Nat.le_refl _) q
theorem pm_in_lt {i : Int32} {N : Nat} (hN : N < 2 ^ 31) (hi : pm_in i N) : ¬ i < 0 ∧ i < Int32.ofNat N := by
  have h0 : ¬ i < 0 := fun q => hi (Or.inl q)
  have h1 : i.toNatClampNeg < N := Nat.not_le.mp fun q => hi (Or.inr q)
  refine ⟨h0, ?_⟩
  have e : i = Int32.ofNat i.toNatClampNeg := (Int32.ofNat_toNatClampNeg i (Int32.not_lt.mp h0)).symm
  rw [e]
  exact (Int32.ofNat_lt_iff_lt (Nat.lt_trans h1 hN) hN).mpr h1
theorem ctJ1_charAt_3b067 {l : Launch} {G : pm_Gl} {h : pm_H} {t N : Nat} {f : Nat → Int32} {j : Int32} {Qr : Option Value → pm_H → Prop} (hT : ∀ s : State, pm_Nw G s → va_T .byte t N (fun j => .int (f j)) (fun q => G.1 ≤ q) s s.heap) (hN : N < 2 ^ 31) (hj : pm_in j N) (hv : ((f j.toNatClampNeg &&& 255).toUInt32 % 65536).toInt32 = f j.toNatClampNeg) (hn : narrow .char (.int (f j.toNatClampNeg)) = .int (f j.toNatClampNeg)) (q : Qr (some (.int (f j.toNatClampNeg))) h) : pm_Ct l G mJ1_charAt_3b067 [.retAddr t, .int j] h 0 0 Qr := by
  refine pm_body pnJ1 (Nat.le_of_ble_eq_true rfl) (fun g C X => ?_)
  have C : pm_C g cJ1_charAt_3b067 RJ1 := C
  show pm_G g 0 [(0, .retAddr t), (1, .int j)] [] h 0 0
  refine pm_iload_n C dJ1_charAt_3b067_0 rfl rfl ?_
  refine pm_aloadT C dJ1_charAt_3b067_1 rfl rfl ?_
  refine pm_tlen C X dJ1_charAt_3b067_2 hT rfl ?_
  refine pm_callS (as := [.int j, .int (Int32.ofNat N)]) (st := []) C X dJ1_charAt_3b067_3 lnJ1_9 myJ0_checkIndex_df160 stJ0_checkIndex_df160 ⟨by decide, by decide⟩ rfl rfl (Nat.le_of_ble_eq_true rfl) (Nat.le_refl _) (Nat.le_refl _) (ctJ0_checkIndex_df160 (pm_in_lt hN hj).1 (pm_in_lt hN hj).2 ?_)
  show pm_G g 6 [(0, .retAddr t), (1, .int j)] [] h 0 0
  refine pm_aloadT C dJ1_charAt_3b067_6 rfl rfl ?_
  refine pm_iload_n C dJ1_charAt_3b067_7 rfl rfl ?_
  refine pm_tbald C X dJ1_charAt_3b067_8 hT hj ?_
  refine pm_sipush (v := 255) C dJ1_charAt_3b067_9 (by decide) ?_
  refine pm_iand C dJ1_charAt_3b067_12 ?_
  refine pm_i2c C dJ1_charAt_3b067_13 ?_
  refine pm_topI hv ?_
  exact pm_cret C X dJ1_charAt_3b067_14 rfl hn (Nat.le_refl _) (Nat.le_refl _) q
theorem ctJ0_isLatin1_aae02 {l : Launch} {G : pm_Gl} {h : pm_H} {i : Nat} {Qr : Option Value → pm_H → Prop} (hi : i < 4) (q : Qr (some (.int 1)) h) : pm_Ct l G mJ0_isLatin1_aae02 [.retAddr (G.2.2 (100 + i))] h 0 0 Qr := by
  refine pm_body pnJ0 (Nat.le_of_ble_eq_true rfl) (fun g C X => ?_)
  have C : pm_C g cJ0_isLatin1_aae02 RJ0 := C
  show pm_G g 0 [(0, .retAddr (G.2.2 (100 + i)))] [] h 0 0
  refine pm_gets0 (w := .int 1) C X dJ0_isLatin1_aae02_0 sfJ0_38 (fun s hN => hN.2.2.2.2.1.2.2.1) ?_
  refine pm_if_eq (tgt := 17) C dJ0_isLatin1_aae02_3 (by decide) (fun c => absurd c (by decide)) (fun _ => ?_)
  refine pm_aloadT C dJ0_isLatin1_aae02_6 rfl rfl ?_
  refine pm_tget (w := .int 0) C X dJ0_isLatin1_aae02_7 sfJ0_15 (fun s hN => (hN.2.2.2.2.1.2.1.1 i hi).2.1) ?_
  refine pm_if_ne (tgt := 17) C dJ0_isLatin1_aae02_10 (by decide) (fun c => absurd rfl c) (fun _ => ?_)
  refine pm_iconst (v := 1) C dJ0_isLatin1_aae02_13 (by decide) ?_
  refine pm_goto (tgt := 18) C dJ0_isLatin1_aae02_14 (by decide) ?_
  exact pm_zret C X dJ0_isLatin1_aae02_18 rfl (by decide) (Nat.le_refl _) (Nat.le_refl _) q
def pm_chr (i : Nat) (j : Int32) : Int32 := (pm_sby.getD i []).getD j.toNatClampNeg 0
theorem pm_chr_ok : ∀ i, i < 4 → pm_sln.getD i 0 < 2 ^ 31 ∧ ∀ k, k < pm_sln.getD i 0 → ((((pm_sby.getD i []).getD k 0) &&& 255).toUInt32 % 65536).toInt32 = ((pm_sby.getD i []).getD k 0) ∧ narrow .char (.int ((pm_sby.getD i []).getD k 0)) = .int ((pm_sby.getD i []).getD k 0) := by decide +kernel
theorem ctJ0_charAt_5068e {l : Launch} {G : pm_Gl} {h : pm_H} {i : Nat} {j : Int32} {Qr : Option Value → pm_H → Prop} (hi : i < 4) (hj : pm_in j (pm_sln.getD i 0)) (q : Qr (some (.int (pm_chr i j))) h) : pm_Ct l G mJ0_charAt_5068e [.retAddr (G.2.2 (100 + i)), .int j] h 0 0 Qr := by
  refine pm_body pnJ0 (Nat.le_of_ble_eq_true rfl) (fun g C X => ?_)
  have C : pm_C g cJ0_charAt_5068e RJ0 := C
  have hk := (pm_chr_ok i hi).2 j.toNatClampNeg (Nat.not_le.mp fun q => hj (Or.inr q))
  show pm_G g 0 [(0, .retAddr (G.2.2 (100 + i))), (1, .int j)] [] h 0 0
  refine pm_aloadT C dJ0_charAt_5068e_0 rfl rfl ?_
  refine pm_callK (j := i) (as := []) (st := []) C X dJ0_charAt_5068e_1 (ltJ0_492) myJ0_isLatin1_aae02 rfl wiJ0_isLatin1_aae02 wvJ0_isLatin1_aae02 ⟨by decide, by decide⟩ hi rfl rfl (Nat.le_of_ble_eq_true rfl) (Nat.le_refl _) (Nat.le_refl _) (ctJ0_isLatin1_aae02 hi ?_)
  show pm_G g 4 [(0, .retAddr (G.2.2 (100 + i))), (1, .int j)] [.int 1] h 0 0
  refine pm_if_eq (tgt := 16) C dJ0_charAt_5068e_4 (by decide) (fun c => absurd c (by decide)) (fun _ => ?_)
  refine pm_aloadT C dJ0_charAt_5068e_7 rfl rfl ?_
  refine pm_tget (w := .retAddr (G.2.2 (110 + i))) C X dJ0_charAt_5068e_8 sfJ0_9 (fun s hN => (hN.2.2.2.2.1.2.1.1 i hi).2.2.1) ?_
  refine pm_iload_n C dJ0_charAt_5068e_11 rfl rfl ?_
  refine pm_callS (as := [.retAddr (G.2.2 (110 + i)), .int j]) (st := []) C X dJ0_charAt_5068e_12 lnJ0_495 myJ1_charAt_3b067 stJ1_charAt_3b067 ⟨by decide, by decide⟩ rfl rfl (Nat.le_of_ble_eq_true rfl) (Nat.le_refl _) (Nat.le_refl _) (ctJ1_charAt_3b067 (f := fun k => (pm_sby.getD i []).getD k 0) (fun s hN => (hN.2.2.2.2.1.2.1.1 i hi).2.2.2) (pm_chr_ok i hi).1 hj hk.1 hk.2 ?_)
  show pm_G g 15 [(0, .retAddr (G.2.2 (100 + i))), (1, .int j)] [.int (pm_chr i j)] h 0 0
  exact pm_cret C X dJ0_charAt_5068e_15 rfl hk.2 (Nat.le_refl _) (Nat.le_refl _) q
