/-! THE FIRST CALL: module, the Model's side -/
theorem pu_add' {h h' : pm_H} {N : Nat} (hk : ∀ x, x < pm_sz h → pm_kd h' x = pm_kd h x ∧ pm_ln h' x = pm_ln h x) (hs : pm_sz h' = pm_sz h + N) : pm_us h' = pm_us h + ((List.range N).map (fun i => pu_s h' (pm_sz h + i))).sum := by
  rw [pu_us, pu_us, hs, pu_split]
  have e : ∀ l : List Nat, (∀ x, x ∈ l → x < pm_sz h) → (l.map (pu_s h')).sum = (l.map (pu_s h)).sum := by
    intro l
    induction l with
    | nil => intro _; rfl
    | cons x l ih =>
      intro hl
      rw [List.map_cons, List.map_cons, List.sum_cons, List.sum_cons, ih (fun y hy => hl y (List.mem_cons_of_mem _ hy))]
      have hx := hl x (List.mem_cons_self ..)
      have : pu_s h' x = pu_s h x := by
        unfold pu_s
        rw [(hk x hx).1, (hk x hx).2]
      rw [this]
  rw [e _ (fun x hx => List.mem_range.mp hx)]
set_option maxHeartbeats 2000000 in
theorem fr_m1 {h g : pm_H} (p : pj_0 h) (sg : pm_sz g = 663) (E : ∀ x, 23 ≤ x → x < 649 → pe_E h g x) : ∃ g', fX16_module g 592 0 = some (-1, g') ∧ pm_sz g' = 706 ∧ pm_us g' = pm_us g + 58 + 4429 := by
  have n00 : ((0 : Int32) < 0) = False := eq_false (by decide)
  have n16 : ((0 : Int32) = 16) = False := eq_false (by decide)
  have l00 : ((0 : Int32) ≤ 0) = True := eq_true (by decide)
  have q := E 592 (by decide) (by decide)
  have kg : pm_kd g 592 = 16 := q.1.trans (fr_k592 p)
  have i1 : pm_I g 592 1 = 0 := (q.2.2.1 1).trans ((fr_i592 p 1).trans rfl)
  have i3 : pm_I g 592 3 = 0 := (q.2.2.1 3).trans ((fr_i592 p 3).trans rfl)
  have r5 : pm_R g 592 5 = none := (q.2.2.2.2 5).trans ((p.2.1.2.2.2.1 5).trans rfl)
  have r10 : pm_R g 592 10 = none := (q.2.2.2.2 10).trans ((p.2.1.2.2.2.1 10).trans rfl)
  have r9 : pm_R g 592 9 = some 595 := (q.2.2.2.2 9).trans ((p.2.1.2.2.2.1 9).trans rfl)
  have k595 : pm_kd g 595 = 13 := (E 595 (by decide) (by decide)).1.trans p.2.1.2.2.2.2.2.1
  have N1 := pe_new g 14 0 592 (by omega)
  have s1 : pm_sz (pm_new g 14 0) = 664 := by rw [ev_szN, sg]
  rw [sg] at N1
  obtain ⟨k, ek, sk, Kk, pk⟩ := cX14 (h := pm_new g 14 0) (a := 663) (s := 664) N1.2.1 s1 (by decide)
  have uk : pm_us k = pm_us g + 58 + 4429 := by
    have e1 := pu_X14 Kk (by rw [s1]; exact sk) (by rw [s1]; exact pk)
    have a14 : (if 14 < 32 then pm_fN 14 else 0) = 58 := rfl
    rw [e1, pm_us_new, a14]
  have GK : ∀ x, x < 663 → pe_E g k x := fun x hx => pe_E_t (N1.2.2 x hx) (Kk.2.2.2 x (by omega) (by omega))
  have k592 := GK 592 (by decide)
  have kk : pm_kd k 592 = 16 := k592.1.trans kg
  have k663 : pm_kd k 663 = 14 := Kk.2.1.trans N1.2.1.1
  have r2 : pm_R k 663 2 = some 664 := (pk.2.2.1 2).trans rfl
  have z664 : pe_Z k 664 34 13 := pk.2.2.2.1
  obtain ⟨S, eS⟩ : ∃ S, S = pm_setR (pm_setR k 592 5 (some 663)) 592 10 (some 663) := ⟨_, rfl⟩
  have Sk : ∀ x, pm_kd S x = pm_kd k x := fun x => by rw [eS]; simp only [ev_kdR]
  have Sl : ∀ x, pm_ln S x = pm_ln k x := fun x => by rw [eS]; simp only [ev_lnR]
  have Ss : pm_sz S = 703 := by rw [eS]; simp only [ev_szR]; exact sk
  have SR : ∀ x y, x ≠ 592 → pm_R S x y = pm_R k x y := fun x y hx => by rw [eS]; simp only [ev_RR, if_neg hx]
  have SR9 : pm_R S 592 9 = some 595 := by rw [eS]; simp only [ev_RR, if_true, Nat.reduceEqDiff, if_false, reduceIte]; exact (k592.2.2.2.2 9).trans r9
  have SR10 : pm_R S 592 10 = some 663 := by rw [eS]; simp only [ev_RR, if_true]
  obtain ⟨b, eb, sb, Eb, ⟨b1, b2, b3, b4⟩, bI, _, ⟨c1, c2⟩, ⟨c3, c4⟩, ⟨c5, c6⟩⟩ := cX14b (h := S) (a := 663) (b := 664) (n := 0) ((Sk 663).trans k663) (by omega) ((SR 663 2 (by decide)).trans r2) ((Sk 664).trans z664.1) ((Sl 664).trans z664.2.1) (by omega) (by decide)
  have eb' : fX14_begin S 663 0 = some b := eb
  have b592 := Eb 592 (by omega) (by decide) (by decide)
  have kb : pm_kd b 592 = 16 := b592.1.trans ((Sk 592).trans kk)
  have rb9 : pm_R b 592 9 = some 595 := (b592.2.2.2.2 9).trans SR9
  have rb10 : pm_R b 592 10 = some 663 := (b592.2.2.2.2 10).trans SR10
  have kb595 : pm_kd b 595 = 13 := (Eb 595 (by omega) (by decide) (by decide)).1.trans ((Sk 595).trans ((GK 595 (by decide)).1.trans k595))
  have bI' : pm_I b 663 1 = 0 := bI
  have n56 : ((56 : Int32) < 0) = False := eq_false (by decide)
  obtain ⟨x, ex⟩ : ∃ x, x = pm_setI (pm_setI (pm_setI (pm_setI (pm_setI (pm_setI b 592 1 0) 592 6 1) 592 7 0) 592 8 (-1)) 592 11 0) 592 12 0 := ⟨_, rfl⟩
  have xk : ∀ y, pm_kd x y = pm_kd b y := fun y => by rw [ex]; simp only [ev_kdI]
  have xl : ∀ y, pm_ln x y = pm_ln b y := fun y => by rw [ex]; simp only [ev_lnI]
  have xs : pm_sz x = pm_sz b := by rw [ex]; simp only [ev_szI]
  have xR : ∀ y z, pm_R x y z = pm_R b y z := fun y z => by rw [ex]; simp only [ev_RI]
  have x11 : pm_I x 592 11 = 0 := by rw [ex]; simp only [ev_II, if_true, Nat.reduceEqDiff, if_false, reduceIte]
  have x12 : pm_I x 592 12 = 0 := by rw [ex]; simp only [ev_II, if_true]
  have st : fX16_stops x 592 1 0 = some (.inl (595, pm_setI (pm_setI x 592 7 1) 592 8 0)) := by
    unfold fX16_stops
    simp only [xk, kb, ev_RI, xR, rb9, if_true, Option.bind_some]
  have nx : fX16_next x 592 = some (.inl (595, pm_setI (pm_setI x 592 7 1) 592 8 0)) := by
    unfold fX16_next
    simp only [xk, kb, x11, x12, n00, st, pt_k, if_true, if_false, Option.bind_some]
  have ra : fX16_readsAll (pm_setI (pm_setI (pm_setI (pm_setI b 592 1 0) 592 6 1) 592 7 0) 592 8 (-1)) 592 = some (.inl (595, pm_setI (pm_setI x 592 7 1) 592 8 0)) := by
    unfold fX16_readsAll
    simp only [ev_kdI, kb, ev_RI, rb10, b1, ev_II, bI', if_true, if_false, Option.bind_some, ev_let, Nat.reduceEqDiff, reduceIte]
    rw [← ex, ev_lim]
    simp only [sX16_readsAll, tX16_readsAll_19, n56, xk, kb, nx, pt_s, if_true, if_false, Option.bind_some]
  have fin : fX16_module g 592 0 = some (-1, pm_setR (pm_setI (pm_setI x 592 7 1) 592 8 0) 592 10 none) := by
    unfold fX16_module
    rw [ev_lim]; simp only [sX16_module, tX16_module_0, n00, n16, kg, i1, i3, r5, r10, pc_oc, sg, if_true, if_false, Option.bind_some]
    rw [ev_lim]; simp only [sX16_module, tX16_module_40, ek, Option.bind_some]
    rw [ev_lim]; simp only [sX16_module, tX16_module_44, kk, ev_kdR, ev_RR, if_true, Option.bind_some, ← eS, Sk, SR10, k663, eb']
    rw [ev_lim]; simp only [sX16_module, tX16_module_63, Option.bind_some]
    rw [ev_lim]; simp only [sX16_module, tX16_module_65, l00, kb, ra, pt_c, ev_kdI, xk, kb595, if_true, Option.bind_some]
    rw [ev_lim]; simp only [sX16_module, tX16_module_150, ev_kdI, xk, kb, if_true, Option.bind_some]
  refine ⟨_, fin, ?_, ?_⟩
  · simp only [ev_szR, ev_szI, xs, sb, Ss]
  · have e1 : pm_us (pm_setR (pm_setI (pm_setI x 592 7 1) 592 8 0) 592 10 none) = pm_us b := pu_same (by simp only [ev_szR, ev_szI, xs]) (fun y => by simp only [ev_kdR, ev_kdI, xk]) (fun y => by simp only [ev_lnR, ev_lnI, xl])
    have e2 := pu_add' (h := S) (h' := b) (N := 3) (fun y hy => by
      by_cases y1 : y = 663
      · rw [y1]; exact ⟨b1.trans ((Sk 663).trans k663).symm, b2⟩
      · by_cases y2 : y = 664
        · rw [y2]; exact ⟨b3.trans ((Sk 664).trans z664.1).symm, b4.trans ((Sl 664).trans z664.2.1).symm⟩
        · exact ⟨(Eb y hy y1 y2).1, (Eb y hy y1 y2).2.1⟩) sb
    have r : List.range 3 = [0, 1, 2] := rfl
    have u0 : pu_s b (pm_sz S + 0) = 0 := pu_r c1 c2 (by decide)
    have u0' : pu_s b (pm_sz S) = 0 := u0
    have u1 : pu_s b (pm_sz S + 1) = 0 := pu_r c3 c4 (by decide)
    have u2 : pu_s b (pm_sz S + 2) = 0 := pu_r c5 c6 (by decide)
    rw [r] at e2
    simp only [List.map_cons, List.map_nil, List.sum_cons, List.sum_nil, Nat.add_zero] at e2
    have e3 : pm_us S = pm_us k := pu_same (by rw [eS]; simp only [ev_szR]) Sk Sl
    omega
