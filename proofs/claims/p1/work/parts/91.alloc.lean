/-! METHODS THAT MAKE CELLS: what is counted is what the pure heap has grown by -/
theorem pm_bodyN {l : Launch} {G : pm_Gl} {M : pm_M} {as : List Value} {h : pm_H} {mc ms : Nat} {Qr : Option Value → pm_H → Prop} (hy : plainName M.1.cls = true) (hl : (lg_sl as).length ≤ M.2.2.1)
    (k : ∀ g : pm_Gm, pm_C g M.2.1 M.1.cls → pm_X g l G M mc ms Qr → g.2.2.2.2.2.2.2.2.1.name = M.1.name → pm_G g 0 (lv_args 0 as) [] h 0 0) : pm_Ct l G M as h mc ms Qr := by
  refine Met.ofW (cc := M.2.1) (maxL := M.2.2.1) (ret := M.2.2.2.1) hy rfl ?_
  intro p e s m args below meth c s₁ B hml hv
  obtain ⟨rfl, hR, hK, hN⟩ := hv
  have hts := atoms_spec (ws := pm_wsy M) B.pre
  have hown : s.vm.findClass M.1.cls = some m.cls := findClass_of_methodNamed B.named
  have hL := lv_entry (as.map (pm_v G.1)) (n := M.2.2.1) (by rw [pm_slots]; exact hl)
  have hb : G.1 ≤ s.heap.size := by rw [hR.1]; exact Nat.le_add_right _ _
  have K := k (p, l, e, pm_rm M mc ms, s, m, (as.map (pm_v G.1)).toArray, below, meth, c, MQ below (pm_Qc G Qr) (as.map (pm_v G.1)).toArray s mc ms (fun q => G.1 ≤ q), G, M.2.2.1)
    ⟨B.exec, B.bytes, fun w hw hg => hts w (List.mem_cons_of_mem _ (List.mem_filter.mpr ⟨hw, hg⟩)), hown, hml, B.notSynchronized, hK, hb, hN⟩ ⟨rfl, rfl, rfl, B.returns, rfl, rfl⟩ (name_of_methodNamed B.named B.method).1
  rw [lg_entry_eq]
  refine K s.heap [] _ hR va_S.rf ?_
  rw [pm_args]
  exact hL
section PAA
variable {g : pm_Gm} {cc : ByteArray} {own : String} {pc : Nat} {lv : List (Nat × Value)} {st : List Value} {h hb h0 r2 hv : pm_H} {l : Launch} {G : pm_Gl} {M : pm_M} {Qr : Option Value → pm_H → Prop}
theorem pa_start (k : pm_G g pc lv st h (pm_sz h - pm_sz h) (pm_us h - pm_us h)) : pm_G g pc lv st h 0 0 := pm_eq k rfl rfl rfl (Nat.sub_self _) (Nat.sub_self _)
theorem pa_k1 (K : pm_S3 h hb) (m : pm_Le h0 hb) (mo : pm_Le h hv) : pm_sz hb - pm_sz h0 + (pm_sz hv - pm_sz h) = pm_sz hv - pm_sz h0 := by
  have a := K.1; have b := m.1; have c := mo.1; omega
theorem pa_k2 (K : pm_S3 h hb) (m : pm_Le h0 hb) (mo : pm_Le h hv) : pm_us hb - pm_us h0 + (pm_us hv - pm_us h) = pm_us hv - pm_us h0 := by
  have a := K.us; have b := m.2; have c := mo.2; omega
theorem pa_le1 (K : pm_S3 h hb) (m : pm_Le h0 hb) (mo : pm_Le h hv) (le : pm_Le hv r2) : pm_sz hb - pm_sz h0 + (pm_sz hv - pm_sz h) ≤ pm_sz r2 - pm_sz h0 := by
  rw [pa_k1 K m mo]; exact Nat.sub_le_sub_right le.1 _
theorem pa_le2 (K : pm_S3 h hb) (m : pm_Le h0 hb) (mo : pm_Le h hv) (le : pm_Le hv r2) : pm_us hb - pm_us h0 + (pm_us hv - pm_us h) ≤ pm_us r2 - pm_us h0 := by
  rw [pa_k2 K m mo]; exact Nat.sub_le_sub_right le.2 _
theorem pa_fin (K : pm_S3 h hb) (m : pm_Le h0 hb) (mo : pm_Le h hv) (k : pm_G g pc lv st hv (pm_sz hv - pm_sz h0) (pm_us hv - pm_us h0)) : pm_G g pc lv st hv (pm_sz hb - pm_sz h0 + (pm_sz hv - pm_sz h)) (pm_us hb - pm_us h0 + (pm_us hv - pm_us h)) := pm_eq k rfl rfl rfl (pa_k1 K m mo).symm (pa_k2 K m mo).symm
theorem pa_n1 (q n : Nat) (K : pm_S3 h hb) (m : pm_Le h0 hb) : pm_sz (pm_new h q n) - pm_sz h0 = pm_sz hb - pm_sz h0 + 1 := by
  have a := K.1; have b := m.1
  show pm_sz h + 1 - pm_sz h0 = _
  omega
theorem pa_n2 (q n k : Nat) (hk : (if q < 32 then pm_fN q else n) = k) (K : pm_S3 h hb) (m : pm_Le h0 hb) : pm_us (pm_new h q n) - pm_us h0 = pm_us hb - pm_us h0 + k := by
  have a := K.us; have b := m.2
  rw [pm_us_new, hk]
  omega
theorem pa_newo (C : pm_C g cc own) (X : pm_X g l G M (pm_sz r2 - pm_sz h0) (pm_us r2 - pm_us h0) Qr) (K : pm_S3 h hb) (m : pm_Le h0 hb) {i c : Nat} (hd : decode cc pc = .ok (.new i, 3)) (hc : pm_Cl c) (w1 : Cond.classLink own i (pm_Rn c) ∈ lw_tbl) (w2 : Cond.instantiable (pm_Rn c) (pm_fN c) ∈ lw_tbl) (w3 : Cond.initialized (pm_Rn c) ∈ lw_tbl) (le : pm_Le (pm_new h c 0) r2)
    (kk : pm_G g (pc + 3) lv (.ref (pm_sz h) :: st) (pm_new h c 0) (pm_sz (pm_new h c 0) - pm_sz h0) (pm_us (pm_new h c 0) - pm_us h0)) : pm_G g pc lv st h (pm_sz hb - pm_sz h0) (pm_us hb - pm_us h0) := by
  have e1 := pa_n1 c 0 K m
  have e2 := pa_n2 c 0 (pm_fN c) (if_pos (Nat.lt_succ_of_lt hc.1)) K m
  exact pm_newo C X hd hc w1 w2 w3 (by rw [← e1]; exact Nat.sub_le_sub_right le.1 _) (by rw [← e2]; exact Nat.sub_le_sub_right le.2 _) (pm_eq kk rfl rfl rfl e1 e2)
theorem pa_newa (C : pm_C g cc own) (X : pm_X g l G M (pm_sz r2 - pm_sz h0) (pm_us r2 - pm_us h0) Qr) (K : pm_S3 h hb) (m : pm_Le h0 hb) {at' : ArrayType} {t : Nat} {n : Int32} {N : Nat} (hd : decode cc pc = .ok (.newarray at', 2)) (ht : t < 4) (hty : newarray.typeOf at' = pm_aty t) (w1 : Cond.arrayClass (pm_aty t) ∈ lw_tbl) (hn : ¬ n < 0) (hN : n.toNatClampNeg = N) (hbytes : N * componentBytes (pm_aty t) ≤ 536870912) (le : pm_Le (pm_new h (t + 32) N) r2)
    (kk : pm_G g (pc + 2) lv (.ref (pm_sz h) :: st) (pm_new h (t + 32) N) (pm_sz (pm_new h (t + 32) N) - pm_sz h0) (pm_us (pm_new h (t + 32) N) - pm_us h0)) : pm_G g pc lv (.int n :: st) h (pm_sz hb - pm_sz h0) (pm_us hb - pm_us h0) := by
  have e1 := pa_n1 (t + 32) N K m
  have e2 := pa_n2 (t + 32) N N (if_neg (by omega)) K m
  exact pm_newa C X hd ht hty w1 hn hN hbytes (by rw [← e1]; exact Nat.sub_le_sub_right le.1 _) (by rw [← e2]; exact Nat.sub_le_sub_right le.2 _) (pm_eq kk rfl rfl rfl e1 e2)
theorem pa_newq (C : pm_C g cc own) (X : pm_X g l G M (pm_sz r2 - pm_sz h0) (pm_us r2 - pm_us h0) Qr) (K : pm_S3 h hb) (m : pm_Le h0 hb) {i t c : Nat} {n : Int32} {N : Nat} (hd : decode cc pc = .ok (.anewarray i, 3)) (ht : t < 11) (hty : pm_aty t = .object (pm_Rn c)) (hao : pm_Rn c ∈ [RX0, RX3, RX4, RX7, RX14]) (w1 : Cond.classLink own i (pm_Rn c) ∈ lw_tbl) (hn : ¬ n < 0) (hN : n.toNatClampNeg = N) (hbytes : N * 4 ≤ 536870912) (le : pm_Le (pm_new h (t + 32) N) r2)
    (kk : pm_G g (pc + 3) lv (.ref (pm_sz h) :: st) (pm_new h (t + 32) N) (pm_sz (pm_new h (t + 32) N) - pm_sz h0) (pm_us (pm_new h (t + 32) N) - pm_us h0)) : pm_G g pc lv (.int n :: st) h (pm_sz hb - pm_sz h0) (pm_us hb - pm_us h0) := by
  have e1 := pa_n1 (t + 32) N K m
  have e2 := pa_n2 (t + 32) N N (if_neg (by omega)) K m
  exact pm_newq C X hd ht hty hao w1 hn hN hbytes (by rw [← e1]; exact Nat.sub_le_sub_right le.1 _) (by rw [← e2]; exact Nat.sub_le_sub_right le.2 _) (pm_eq kk rfl rfl rfl e1 e2)
end PAA
theorem ao0 : pm_Rn 0 ∈ [RX0, RX3, RX4, RX7, RX14] := List.Mem.head _
theorem ao3 : pm_Rn 3 ∈ [RX0, RX3, RX4, RX7, RX14] := List.Mem.tail _ (List.Mem.head _)
theorem ao4 : pm_Rn 4 ∈ [RX0, RX3, RX4, RX7, RX14] := List.Mem.tail _ (List.Mem.tail _ (List.Mem.head _))
theorem ao7 : pm_Rn 7 ∈ [RX0, RX3, RX4, RX7, RX14] := List.Mem.tail _ (List.Mem.tail _ (List.Mem.tail _ (List.Mem.head _)))
theorem ao14 : pm_Rn 14 ∈ [RX0, RX3, RX4, RX7, RX14] := List.Mem.tail _ (List.Mem.tail _ (List.Mem.tail _ (List.Mem.tail _ (List.Mem.head _))))
