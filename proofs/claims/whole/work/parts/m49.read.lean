/-! THE CLASS: module() reads: what it needs, what it leaves -/
/-- the engine between two calls, as reading and checking need it -/
def eCl (h : pm_H) (fed cnt : Nat) : Prop := (pm_kd h 0 = 12 ∧ pm_I h 0 1 = Int32.ofNat fed ∧ pm_I h 0 4 = Int32.ofNat cnt ∧ pm_R h 0 0 = some 1 ∧ pm_R h 0 3 = some 2 ∧ pm_R h 0 8 = some 19 ∧ pm_R h 0 9 = some 22) ∧ (fed ≤ 40960 ∧ cnt ≤ 16) ∧ (pm_kd h 1 = 33 ∧ pm_ln h 1 = 40960 ∧ (∀ k, pm_R h 1 k = none) ∧ ∀ j, fits .byte (.int (pm_I h 1 j)) = true) ∧ (pm_kd h 2 = 41 ∧ pm_ln h 2 = 16) ∧ (pm_kd h 19 = 9 ∧ pm_R h 19 17 = some 20 ∧ pm_R h 19 18 = some 21 ∧ ∀ k, k ≠ 0 → k ≠ 17 → k ≠ 18 → pm_R h 19 k = none) ∧ (pm_kd h 20 = 32 ∧ pm_ln h 20 = 20481 ∧ ∀ k, pm_R h 20 k = none) ∧ (pm_kd h 21 = 34 ∧ pm_ln h 21 = 34 ∧ ∀ k, pm_R h 21 k = none) ∧ (pm_kd h 22 = 1 ∧ pm_R h 22 3 = some 19) ∧ xQ0 h ∧ pw_J h ∧ 648 < pm_sz h
/-- what reading leaves of the heap before -/
def cFr (h X : pm_H) : Prop := (∀ x, x < pm_sz h → x ≠ 0 → x ≠ 19 → x ≠ 20 → x ≠ 21 → pe_E h X x) ∧ (pm_kd X 0 = 12 ∧ pm_ln X 0 = pm_ln h 0 ∧ (∀ y, pm_R X 0 y = pm_R h 0 y) ∧ (∀ y, pm_L X 0 y = pm_L h 0 y) ∧ ∀ y, pm_I X 0 y = if y = 5 then 1 else if y = 1 then 0 else pm_I h 0 y) ∧ (pm_kd X 19 = 9 ∧ pm_ln X 19 = pm_ln h 19 ∧ pm_R X 19 0 = some (pm_sz h) ∧ ∀ k, k ≠ 0 → pm_R X 19 k = pm_R h 19 k) ∧ (pm_kd X 20 = pm_kd h 20 ∧ pm_ln X 20 = pm_ln h 20 ∧ ∀ k, pm_R X 20 k = pm_R h 20 k) ∧ (pm_kd X 21 = pm_kd h 21 ∧ pm_ln X 21 = pm_ln h 21 ∧ ∀ k, pm_R X 21 k = pm_R h 21 k) ∧ pw_J X ∧ pm_sz h + 14 ≤ pm_sz X ∧ (pm_R X (pm_sz h) 12 = some (pm_sz h + 13) ∧ pm_kd X (pm_sz h + 13) = 38 ∧ pm_ln X (pm_sz h + 13) = 0) ∧ ∀ i, pm_I X (pm_sz h + 1) i = pm_I h 1 i ∨ ¬ i < pm_ln X (pm_sz h + 1)
noncomputable abbrev s97' (mm : Nat) (H : pm_H) : Option (Int32 × pm_H) := pm_lim sX12_module (.inr (.inr (.inr (.inr (.inr (.inl (0, mm, H)))))))
def eReg (s : Nat) (x : Nat) : Prop := x = 1 ∨ x = 19 ∨ x = 20 ∨ x = 21 ∨ s ≤ x
section CREAD
variable {h h0 X : pm_H} {n fed cnt : Nat} {B : Nat → Nat}
theorem pr_rc {A : Nat → Prop} (F : pr_F A h h) (h19 : A 19) (a f q : Int32) : pr_F A h (rc h a f q) := ⟨F.1, Nat.le_refl _, F.2.2.1, fun _ _ => ⟨rfl, rfl⟩, fun x hx => ⟨rc_x _ _ _ _ (fun z => hx (z ▸ h19)), rfl, rfl⟩⟩
theorem pw_rc (L : List Nat) (k9 : pm_kd h 19 = 9) (l1 : 1153 ∈ L) (l3 : 1155 ∈ L) (l4 : 1156 ∈ L) (a f q : Int32) : pw_F L h (rc h a f q) := ⟨Nat.le_refl _, fun _ _ => ⟨rfl, rfl⟩, fun x k hx hn => ⟨by
  by_cases c : x = 19
  · rw [c, k9] at hn
    have e1 : k ≠ 1 := fun z => hn (by rw [z]; exact l1)
    have e3 : k ≠ 3 := fun z => hn (by rw [z]; exact l3)
    have e4 : k ≠ 4 := fun z => hn (by rw [z]; exact l4)
    rw [c]
    exact rc_y _ _ _ _ e1 e3 e4
  · exact congrFun (rc_x _ _ _ _ c) k, rfl, rfl⟩, fun j => j, fun _ _ _ _ => rfl⟩
/-- reading -/
theorem c_read (C : eCl h fed cnt) (hn : n ≤ fed) (hc : cnt < 16) (hB1 : ∀ i, i < n → pm_I h 1 i &&& 255 = Int32.ofNat (B i)) (hB2 : ∀ i, B i < 256) : ∃ X, fX12_module h 0 (Int32.ofNat n) = s97' (pm_sz h) X ∧ cFr h X ∧ pm_ln X (pm_sz h + 1) = n ∧ match sp_all B n with
    | .inl (fl, pl) => (0 < fl ∧ fl < 100) ∧ ∃ Y, fX9_finish X 19 = some Y ∧ cFr h Y ∧ pm_I Y 19 3 = Int32.ofNat fl ∧ pm_I Y 19 4 = Int32.ofNat pl
    | .inr (M, _) => fX9_finish X 19 = some X ∧ ∃ h' la, X = rc h' (Int32.ofNat n) 0 (-1) ∧ clS h' n (pm_sz h + 1) (pm_sz h) 20 21 (pm_sz h + 2) la (isS (M.2.2.2.2.2.2.2.2.2.2.2.2.1 12)) B M := by
  obtain ⟨⟨e1, e2, e3, e4, e5, e6, e7⟩, ⟨f1, f2⟩, ⟨t1, t2, t3, t4⟩, ⟨m1, m2⟩, ⟨r1, r2, r3, r4⟩, ⟨b1, b2, b3⟩, ⟨s1, s2, s3⟩, ⟨k1, k2⟩, Q0, J, sz⟩ := C
  obtain ⟨H, H1, H2, H3, H4, H5, H6, H7, H8, H9, H10, H11, H12, H13, H14, H15⟩ := mod_c e1 e2 hn f1 e5 m1 e3 (by rw [m2]; exact hc) (by rw [m2]; decide) e4 t1 t2 t4 e6 r1 (by omega) (by omega)
  have E1 := H8 1 (by omega) (by decide)
  have E19 := H8 19 (by omega) (by decide)
  have E20 := H8 20 (by omega) (by decide)
  have E21 := H8 21 (by omega) (by decide)
  have K9 : pm_kd H 19 = 9 := E19.1.trans r1
  obtain ⟨pi, pl, ⟨q0, q1, q2, q3, q4, q5, q6, q7, q8, q9, q10, q11, q12⟩, ⟨u1, u2, u3⟩, y1, y2, y3, y4, y5, y6, y7, y8, y9, y10, y11⟩ := id H3
  have BE := begin_e (n := n) K9 H2 (by omega) q0 H5 H6
  have CL := clS_0 (B := B) (me := 20) (sh := 21) K9 H2 H3 (by omega) H5 H6 (by omega) (fun i hi => by rw [H7 i hi]; exact hB1 i hi) hB2 ((E19.2.2.2.2 17).trans r2) (E20.1.trans b1) (E20.2.1.trans b2) ((E19.2.2.2.2 18).trans r3) (E21.1.trans s1) (E21.2.1.trans s2) (by omega) (by omega) (by decide) (by omega) (by omega) (by omega)
  obtain ⟨h0, eh0⟩ : ∃ z, z = hBeg H (pm_sz h) n := ⟨_, rfl⟩
  rw [← eh0] at BE CL
  have zs : pm_sz h0 = pm_sz h + 14 := by rw [eh0]; exact H4
  have kk : pm_kd h0 = pm_kd H := by rw [eh0]; rfl
  have ll : pm_ln h0 = pm_ln H := by rw [eh0]; rfl
  have LL : pm_L h0 = pm_L H := by rw [eh0]; rfl
  have RR : ∀ x j, x ≠ 19 → pm_R h0 x j = pm_R H x j := fun x j hx => by rw [eh0]; show pm_R (pm_setR H 19 0 (some (pm_sz h))) x j = _; rw [ev_RR, if_neg hx]
  have R9 : ∀ j, j ≠ 0 → pm_R h0 19 j = pm_R H 19 j := fun j hj => by rw [eh0]; show pm_R (pm_setR H 19 0 (some (pm_sz h))) 19 j = _; rw [ev_RR, if_pos rfl, if_neg hj]
  have R0 : pm_R h0 19 0 = some (pm_sz h) := by rw [eh0]; show pm_R (pm_setR H 19 0 (some (pm_sz h))) 19 0 = _; rw [ev_RR, if_pos rfl, if_pos rfl]
  have II : ∀ x, x ≠ 19 → pm_I h0 x = pm_I H x := fun x hx => by
    funext y
    rw [eh0]
    unfold hBeg
    rw [ev_II, if_neg hx, ev_II, if_neg hx, ev_II, if_neg hx, ev_II, if_neg hx, ev_II, if_neg hx, ev_IR]
  -- the region
  have F0 : pr_F (fun x => x = 1 ∨ x = 20 ∨ x = 21 ∨ pm_sz h ≤ x) h h := pr_rf (fun a ha => .inr (.inr (.inr ha))) (fun a ha k b e => by
    rcases ha with z | z | z | z
    · rw [z, t3] at e; cases e
    · rw [z, b3] at e; cases e
    · rw [z, s3] at e; cases e
    · rw [(J a z).2 k] at e; cases e)
  have CLo := H14 _ F0 (.inl rfl)
  have FR : pr_F (eReg (pm_sz h)) h0 h0 := pr_rf (fun a ha => .inr (.inr (.inr (.inr (by omega))))) (fun a ha k b e => by
    by_cases a19 : a = 19
    · rw [a19] at e
      by_cases k0 : k = 0
      · rw [k0, R0] at e; cases e; exact .inr (.inr (.inr (.inr (Nat.le_refl _))))
      · rw [R9 k k0, E19.2.2.2.2 k] at e
        by_cases k17 : k = 17
        · rw [k17, r2] at e; cases e; exact .inr (.inr (.inl rfl))
        · by_cases k18 : k = 18
          · rw [k18, r3] at e; cases e; exact .inr (.inr (.inr (.inl rfl)))
          · rw [r4 k k0 k17 k18] at e; cases e
    · rw [RR a k a19] at e
      have ha' : a = 1 ∨ a = 20 ∨ a = 21 ∨ pm_sz h ≤ a := by unfold eReg at ha; omega
      have := CLo a ha' k b e
      unfold eReg
      omega)
  have WK : ∀ {Z : pm_H}, pr_F (eReg (pm_sz h)) h0 Z → pw_F WX9_advance h0 Z → cFr h Z ∧ pm_ln Z (pm_sz h + 1) = n := fun {Z} F W => by
    obtain ⟨g1, g2, g3, g4, g5⟩ := F
    obtain ⟨w1, w2, w3, w4, w5⟩ := W
    have out : ∀ x, x < pm_sz h → x ≠ 1 → x ≠ 19 → x ≠ 20 → x ≠ 21 → pm_I Z x = pm_I h0 x ∧ pm_L Z x = pm_L h0 x ∧ pm_R Z x = pm_R h0 x := fun x hx h1 h2 h3 h4 => g5 x (fun z => by unfold eReg at z; omega)
    have kl : ∀ x, x < pm_sz h + 14 → pm_kd Z x = pm_kd H x ∧ pm_ln Z x = pm_ln H x := fun x hx => by
      have := w2 x (by omega)
      rw [kk, ll] at this
      exact this
    have w33 : ∀ x, x < pm_sz h + 14 → pm_kd H x = 33 → ∀ k, pm_I Z x k = pm_I h0 x k ∧ pm_L Z x k = pm_L h0 x k ∧ pm_R Z x k = pm_R h0 x k := fun x hx hk k => w3 x k (by omega) (by rw [kk, hk]; show ¬ (4224 : Nat) ∈ WX9_advance; decide)
    have Jh0 : pw_J h0 := fun a ha => by
      have j := H15 J a (by omega)
      exact ⟨by rw [kk]; exact j.1, fun k => by rw [RR a k (by omega)]; exact j.2 k⟩
    refine ⟨⟨fun x hx x0 x19 x20 x21 => ?_, ?_, ⟨(kl 19 (by omega)).1.trans K9, (kl 19 (by omega)).2.trans E19.2.1, ?_, fun k hk => ?_⟩, ⟨(kl 20 (by omega)).1.trans E20.1, (kl 20 (by omega)).2.trans E20.2.1, fun k => ?_⟩, ⟨(kl 21 (by omega)).1.trans E21.1, (kl 21 (by omega)).2.trans E21.2.1, fun k => ?_⟩, w4 Jh0, by omega, ⟨?_, (kl _ (by omega)).1.trans y11.1, (kl _ (by omega)).2.trans y11.2.1⟩, fun i => ?_⟩, (kl _ (by omega)).2.trans H6⟩
    · have eh := H8 x hx x0
      by_cases x1 : x = 1
      · subst x1
        have w := w33 1 (by omega) (E1.1.trans t1)
        exact ⟨(kl 1 (by omega)).1.trans E1.1, (kl 1 (by omega)).2.trans E1.2.1, fun y => by rw [(w y).1, II 1 (by decide)]; exact E1.2.2.1 y, fun y => by rw [(w y).2.1, LL]; exact E1.2.2.2.1 y, fun y => by rw [(w y).2.2, RR 1 y (by decide)]; exact E1.2.2.2.2 y⟩
      · obtain ⟨o1, o2, o3⟩ := out x hx x1 x19 x20 x21
        exact ⟨(kl x (by omega)).1.trans eh.1, (kl x (by omega)).2.trans eh.2.1, fun y => by rw [o1, II x x19]; exact eh.2.2.1 y, fun y => by rw [o2, LL]; exact eh.2.2.2.1 y, fun y => by rw [o3, RR x y x19]; exact eh.2.2.2.2 y⟩
    · obtain ⟨o1, o2, o3⟩ := out 0 (by omega) (by decide) (by decide) (by decide) (by decide)
      exact ⟨(kl 0 (by omega)).1.trans H9, (kl 0 (by omega)).2.trans H10, fun y => by rw [o3, RR 0 y (by decide)]; exact H11 y, fun y => by rw [o2, LL]; exact H12 y, fun y => by rw [o1, II 0 (by decide)]; exact H13 y⟩
    · rw [(w3 19 0 (by omega) (by rw [kk, K9]; show ¬ (1152 : Nat) ∈ WX9_advance; decide)).2.2]; exact R0
    · by_cases k17 : k = 17
      · rw [k17, (w3 19 17 (by omega) (by rw [kk, K9]; show ¬ (1169 : Nat) ∈ WX9_advance; decide)).2.2, R9 17 (by decide)]; exact E19.2.2.2.2 17
      · by_cases k18 : k = 18
        · rw [k18, (w3 19 18 (by omega) (by rw [kk, K9]; show ¬ (1170 : Nat) ∈ WX9_advance; decide)).2.2, R9 18 (by decide)]; exact E19.2.2.2.2 18
        · rw [w5 19 k (by omega) (by rw [kk, K9]; exact .inr ⟨rfl, hk, k17, k18⟩), R9 k hk]; exact E19.2.2.2.2 k
    · rw [w5 20 k (by omega) (by rw [kk, E20.1, b1]; exact .inl ⟨by decide, by decide⟩), RR 20 k (by decide)]; exact E20.2.2.2.2 k
    · rw [w5 21 k (by omega) (by rw [kk, E21.1, s1]; exact .inl ⟨by decide, by decide⟩), RR 21 k (by decide)]; exact E21.2.2.2.2 k
    · rw [(w3 (pm_sz h) 12 (by omega) (by rw [kk, H2]; show ¬ (908 : Nat) ∈ WX9_advance; decide)).2.2, RR _ _ (by omega)]; exact q12
    · by_cases hi : i < n
      · refine .inl ?_
        rw [(w33 (pm_sz h + 1) (by omega) H5 i).1, II _ (by omega)]
        exact H7 i hi
      · refine .inr ?_
        rw [(kl (pm_sz h + 1) (by omega)).2, H6]; exact hi
  have E : eng (eReg (pm_sz h)) h0 := ⟨fun z => by unfold eReg at z; omega, .inr (.inl rfl), by omega, by rw [kk]; exact H9, by rw [RR 0 8 (by decide), H11 8]; exact e6⟩
  obtain ⟨g, eg⟩ : ∃ g, g = pm_lim sX9_begin (19, 0, rc h0 0 0 (-1)) := ⟨_, rfl⟩
  have FG : ∀ r, g = some r → ∃ a f q, r = rc h0 a f q := fun r er => by
    have LC := CL.2.1
    have MG := mag_c LC.1 LC.2.2.1 (-1) 8 0 rfl (Nat.zero_le _)
    have eg0 : pm_lim sX9_begin (19, Int32.ofNat 0, rc h0 (Int32.ofNat 0) 0 (-1)) = g := eg.symm
    rw [eg0] at MG
    cases hm : sp_mg B n (fun p => (.inr ((), p) : sp_O Unit)) 8 0 with
    | inl z =>
      rw [hm] at MG
      obtain ⟨-, r', h', a, e1, ew, hF⟩ := MG
      rw [er] at e1
      cases e1
      have hF : h' = h0 := hF
      subst hF
      exact ⟨a, _, _, ew⟩
    | inr z =>
      rw [hm] at MG
      obtain ⟨r', e1, e2, -, -⟩ := MG
      rw [er] at e1
      cases e1
      exact ⟨_, _, _, e2⟩
  have RD := reads (B := B) E CL (by omega) (by omega) eg (fun r er => by
    obtain ⟨a, f, q, e⟩ := FG r er
    rw [e]
    exact pr_rc FR E.2.1 a f q)
  rw [← eg] at BE
  have go : ∀ {r X : pm_H}, g = some r → s69 n (pm_sz h) 0 r = some X → fX12_module h 0 (Int32.ofNat n) = s97' (pm_sz h) X ∧ pr_F (eReg (pm_sz h)) h0 X ∧ pw_F WX9_advance h0 X := fun {r X} er es => by
    obtain ⟨a, f, q, e⟩ := FG r er
    refine ⟨?_, s69_R (by omega) E (by rw [e]; exact pr_rc FR E.2.1 a f q) es, s69_W (by omega) (by rw [e]; exact pw_rc _ (by rw [kk]; exact K9) (by decide) (by decide) (by decide) a f q) es⟩
    rw [H1 r (BE.trans er), s69_eq (mm := pm_sz h) (by omega) n 0 r (Nat.zero_add _), es]
    rfl
  cases ha : sp_all B n with
  | inl z =>
    obtain ⟨fl, pl⟩ := z
    rw [ha] at RD
    obtain ⟨hfl, r, X, h', a, er, es, ef, -⟩ := RD
    obtain ⟨G1, G2, G3⟩ := go er es
    refine ⟨X, G1, (WK G2 G3).1, (WK G2 G3).2, hfl, _, ef, ?_, rfl, rfl⟩
    exact (WK (rgX9_finish G2 E.2.1 ef) (pw_t (by decide) G3 (wfX9_finish (pw_rf X) ef))).1
  | inr z =>
    obtain ⟨M, pz⟩ := z
    rw [ha] at RD
    obtain ⟨r, h', la, er, es, ef, CL'⟩ := RD
    obtain ⟨G1, G2, G3⟩ := go er es
    exact ⟨_, G1, (WK G2 G3).1, (WK G2 G3).2, ef, h', la, rfl, CL'⟩
end CREAD
