/-! THE REFERENCE READS: section 10 whole, by rules -/
theorem q_rowsY {σ α ρ : Type} {s : σ → Option (σ ⊕ ((Nat × pm_H) ⊕ ρ))} {n b m eo el e : Nat} {d : Bool} {B : Nat → Nat} {f q : Int32} {st : Nat → pm_H → σ} {row : Nat → sp_O α} {Cn : pm_H → List α → Nat → Prop} {AI AL : Nat → Nat → Nat → Prop} {c : Nat} {fin : pm_H → ρ} {Y : pm_H → pm_H → Prop} (yY : ∀ h h1 h2, yF m eo el h h1 → Y h1 h2 → Y h h2) (mI : ∀ p p1 x y, p ≤ p1 → AI p1 x y → AI p x y) (mL : ∀ p p1 x y, p ≤ p1 → AL p1 x y → AL p x y) (ay : ∀ p h h', mC h n b m eo el e d B → gF (AI p) (AL p) h h' → yF m eo el h h') (done : ∀ H, pm_lim s (st c H) = some (.inr (fin H)))
    (step : ∀ (k p : Nat) (h : pm_H) (l : List α) (F : pm_H → Prop) (R : List α → Nat → ρ → Prop) (o' : α → Nat → sp_O (List α)), k < c → mC h n b m eo el e d B → p ≤ e → l.length = k → Cn h l p → (∀ h', Y h h' → F h') → (∀ a p' h', row p = .inr (a, p') → gF (AI p) (AL p) h h' → Cn h' (l ++ [a]) p' → p < p' → p' ≤ e → ms_Q F R (pm_lim s (st (k + 1) (rm h' (Int32.ofNat p') f q))) (o' a p')) → ms_Q F R (pm_lim s (st k (rm h (Int32.ofNat p) f q))) (sp_b (row p) o')) :
    ∀ (j k p : Nat) (h : pm_H) (l : List α), k + j = c → mC h n b m eo el e d B → p ≤ e → l.length = k → Cn h l p → ms_Q (fun h' => Y h h') (fun l' p' r => ∃ h', r = fin (rm h' (Int32.ofNat p') f q) ∧ gF (AI p) (AL p) h h' ∧ Cn h' (l ++ l') p' ∧ l'.length = j ∧ p ≤ p' ∧ p' ≤ e) (pm_lim s (st k (rm h (Int32.ofNat p) f q))) (sp_rows row j p) := by
  intro j
  induction j with
  | zero =>
    intro k p h l hk C hp hl cn
    rw [show k = c by omega, done]
    exact q_r ⟨h, rfl, gF_r _ _ h, by rw [List.append_nil]; exact cn, rfl, Nat.le_refl _, hp⟩
  | succ j ih =>
    intro k p h l hk C hp hl cn
    unfold sp_rows
    refine step k p h l _ _ _ (by omega) C hp hl cn (fun h' y => y) (fun a p' h' e1 g cn' hp1 hp2 => ?_)
    have y := ay p h h' C g
    refine q_cl (ih (k + 1) p' h' (l ++ [a]) (by omega) (mC_F C y) hp2 (by rw [List.length_append, hl]; rfl) cn') (fun h2 y2 => yY _ _ _ y y2) ?_
    rintro v p2 r e2 ⟨h2, er, g2, cn2, ln, hp3, hp4⟩
    exact q_r ⟨h2, er, gF_t g (gF_m g2 (fun x z w => mI p p' x z (by omega) w) (fun x z w => mL p p' x z (by omega) w)), by rw [List.append_assoc] at cn2; exact cn2, by rw [List.length_cons, ln], by omega, hp4⟩
/-- a fault inside a body: the part's end is another one -/
def yB (m eo el : Nat) (h h' : pm_H) : Prop := ∃ v, yF m eo el (pm_setI h 592 12 v) h'
theorem yF_12 {m eo el : Nat} {h h1 : pm_H} (y : yF m eo el h h1) (v : Int32) : yF m eo el (pm_setI h 592 12 v) (pm_setI h1 592 12 v) := by
  refine ⟨y.1, y.2.1, y.2.2.1, y.2.2.2.1, fun x z a b c d e f g => ⟨?_, (y.2.2.2.2.1 x z a b c d e f g).2⟩, fun z hz => ?_, y.2.2.2.2.2.2⟩
  · rw [ev_II, if_neg a, ev_II, if_neg a]
    exact (y.2.2.2.2.1 x z a b c d e f g).1
  · rw [ev_II, if_pos rfl, ev_II, if_pos rfl, y.2.2.2.2.2.1 z hz]
theorem setI_own (h : pm_H) (a k : Nat) : pm_setI h a k (pm_I h a k) = h := by
  refine congrArg (fun z => (pm_sz h, pm_kd h, pm_ln h, z, pm_L h, pm_R h)) (funext fun x => funext fun y => ?_)
  show (if x = a then (if y = k then pm_I h a k else pm_I h x y) else pm_I h x y) = pm_I h x y
  split
  · split
    · next e1 e2 => rw [e1, e2]
    · rfl
  · rfl
theorem yB_y {m eo el : Nat} {h h' : pm_H} (y : yF m eo el h h') : yB m eo el h h' := ⟨pm_I h 592 12, by rw [setI_own]; exact y⟩
theorem yB_t {m eo el : Nat} {h h1 h2 : pm_H} (y : yF m eo el h h1) (z : yB m eo el h1 h2) : yB m eo el h h2 := z.elim fun v z => ⟨v, yF_t (yF_12 y v) z⟩
def sp_boS (B : Nat → Nat) (e : Nat) (d : Bool) (p : Nat) : sp_O (List tBo) := sp_b (sp_num B e p) fun c p1 => sp_rows (sp_bo B e d) c p1
def rBoI (m eo el p x y : Nat) : Prop := epI m eo el p x y ∨ (m + 35 ≤ x ∧ x ≤ m + 38)
def rBoL (m x _ : Nat) : Prop := x = m + 36
def hBoL (m x y : Nat) : Prop := rBoL m x y ∨ (x = m ∧ y = 50)
def cBo (c m n eo el : Nat) (o id : Int32) (h : pm_H) (l : List tBo) (p : Nat) : Prop := (c ≤ 64 → cR (pBo m eo el) h l) ∧ (∀ a, a ∈ l → pEn eo el h a ∧ a.2.2.2.1 < p) ∧ mE h n el p ∧ pm_I h m 3 = xv o id (l.any bigB) ∧ pm_I h 592 13 = id
theorem rBo_m {m eo el p p1 x y : Nat} (hp : p ≤ p1) (z : rBoI m eo el p1 x y) : rBoI m eo el p x y := z.elim (fun z => .inl (ep_m hp z)) .inr
section MBO
variable {n b m eo el e : Nat} {B : Nat → Nat} {d : Bool}
theorem hBo_y {h h' : pm_H} {p : Nat} (C : mC h n b m eo el e d B) (g : gF (rBoI m eo el p) (hBoL m) h h') : yF m eo el h h' := gF_y (mC_m C) (mC_eo C) (mC_el C) (gF_m g (fun x y z => by unfold rBoI epI at z; unfold yI; omega) (fun x y z => by unfold hBoL rBoL at z; unfold yL; omega))
/-- another end of the part -/
theorem mC_e {h : pm_H} (C : mC h n b m eo el e d B) {e1 : Nat} (he : e1 ≤ n) : mC (pm_setI h 592 12 (Int32.ofNat e1)) n b m eo el e1 d B := by
  have hm := mC_m C
  obtain ⟨S, X, P, Z, ie, hn, hd⟩ := C
  refine ⟨mS_I S (fun z => mS_nb S z.symm), X, P, Z, by rw [ev_II, if_pos rfl, if_pos rfl], he, ?_⟩
  rw [ev_II, if_neg (by omega)]
  exact hd
theorem pEn_k {h h' : pm_H} {a : tBo} {p : Nat} (E : pEn eo el h a) (hp : a.2.2.2.1 < p) (k1 : ∀ y, y < p → pm_I h' eo y = pm_I h eo y) (k2 : ∀ y, y < p → pm_I h' el y = pm_I h el y) : pEn eo el h' a := by
  refine ⟨fun y x hx => ?_, fun y x hx => ?_, fun y h1 h2 h3 => ?_⟩
  · obtain ⟨z1, z2⟩ := E.1 y x hx
    exact ⟨z1, by rw [k1 y (by omega)]; exact z2⟩
  · obtain ⟨z1, z2⟩ := E.2.1 y x hx
    exact ⟨z1, by rw [k2 y (by omega)]; exact z2⟩
  · rw [k2 y (by omega)]
    exact E.2.2 y h1 h2 h3
theorem q_bo (f q : Int32) {c : Nat} (hc : c < 4294967296) {o id : Int32} (k p : Nat) (h : pm_H) (l : List tBo) (F : pm_H → Prop) (R : List tBo → Nat → pm_H → Prop) (o' : tBo → Nat → sp_O (List tBo)) (hk : k < c) (C : mC h n b m eo el e d B) (hp : p ≤ e) (hl : l.length = k) (cn : cBo c m n eo el o id h l p) (hF : ∀ h', yB m eo el h h' → F h') (next : ∀ a p' h', sp_bo B e d p = .inr (a, p') → gF (rBoI m eo el p) (rBoL m) h h' → cBo c m n eo el o id h' (l ++ [a]) p' → p < p' → p' ≤ e → ms_Q F R (pm_lim sX16_readsBodies (.inl (592, Int64.ofNat c, Int64.ofNat (k + 1), rm h' (Int32.ofNat p') f q))) (o' a p')) : ms_Q F R (pm_lim sX16_readsBodies (.inl (592, Int64.ofNat c, Int64.ofNat k, rm h (Int32.ofNat p) f q))) (sp_b (sp_bo B e d p) o') := by
  have hm : 648 < m := mC_m C
  have ho := mC_eo C
  have hll := mC_el C
  obtain ⟨d1, d2, d3⟩ := mC_d C
  obtain ⟨s1, s2⟩ := mC_s C
  have K : pm_kd h 592 = 16 := C.1.1
  have n4 := C.1.2.2.2.2.2.2.1
  have he := C.2.2.2.2.2.1
  have ie := C.2.2.2.2.1
  have k1 : Int64.ofNat k + 1 = Int64.ofNat (k + 1) := ll_ad k 1
  obtain ⟨cn1, cn2, cn3, cn4, cn5⟩ := cn
  refine s_w (aX16_readsBodies_0 ..) ?_
  unfold tX16_readsBodies_15
  refine s_f (show ¬ Int64.ofNat c ≤ Int64.ofNat k by rw [ll_le (by omega) (by omega)]; omega) (s_t K (s_l ?_))
  unfold sp_bo at next ⊢
  rw [sp_ba]
  refine s_c (MR_Q (ms_num C.1 C.2.2.2.2.1 C.2.2.2.2.2.1 hp f q)) (fun h' z => by rw [z]; exact hF _ (yB_y (yF_r m eo el h))) ?_
  intro sz p1 r e1 er
  subst er
  have nv := sp_num_v C.1.2.2.2.2.2.2.2.2.2 e1
  obtain ⟨b1, hp1⟩ := sp_num_b hp e1
  rw [e1, sp_br] at next
  refine s_t K ?_
  have cmp : (Int64.ofNat sz ≤ ((pm_I (rm h (Int32.ofNat p1) f q) 592 12) - (pm_I (rm h (Int32.ofNat p1) f q) 592 11)).toInt64) = (sz ≤ e - p1) := by
    rw [rm_12, ie, rm_11, nn_sb hp1, nn_t6 (by omega), ll_le (by omega) (by omega)]
  by_cases c2 : e < p1 + sz
  · rw [if_pos c2]
    refine s_f (show ¬ Int64.ofNat sz ≤ ((pm_I (rm h (Int32.ofNat p1) f q) 592 12) - (pm_I (rm h (Int32.ofNat p1) f q) 592 11)).toInt64 by rw [cmp]; omega) ?_
    rw [sp_bl]
    exact q_stop (γ := Nat) C (hF h (yB_y (yF_r m eo el h))) rfl rfl
  · rw [if_neg c2] at next ⊢
    refine s_t (show Int64.ofNat sz ≤ ((pm_I (rm h (Int32.ofNat p1) f q) 592 12) - (pm_I (rm h (Int32.ofNat p1) f q) 592 11)).toInt64 by rw [cmp]; omega) (s_n (s_w (aX16_readsBodies_1 ..) ?_))
    unfold tX16_readsBodies_56
    refine s_t K (s_l (s_l ?_))
    have C1 := mC_e C (show p1 + sz ≤ n by omega)
    have st : pm_setI (rm h (Int32.ofNat p1) f q) 592 12 (pm_I (rm h (Int32.ofNat p1) f q) 592 11 + (Int64.ofNat sz).toInt32) = rm (pm_setI h 592 12 (Int32.ofNat (p1 + sz))) (Int32.ofNat p1) f q := by
      rw [rm_11, ll_t3, nn_ad]
      exact rm_o _ _ _ _ _ (by decide) (by decide) (by decide)
    rw [st, sp_ba]
    have E1 : mE (pm_setI h 592 12 (Int32.ofNat (p1 + sz))) n el p1 := mE_k (mE_m cn3 (by omega)) (fun y => by rw [ev_II, if_neg (by omega)])
    -- behind the body
    have fin : ∀ i, i < 64 → (c ≤ 64 → i = k) → ∀ (a : tBo) (p2 : Nat) (h2 : pm_H), sp_bd B (p1 + sz) d p1 = .inr (a, p2) → gF (boI m eo el i p1) (boL m i) (pm_setI h 592 12 (Int32.ofNat (p1 + sz))) h2 → mE h2 n el p2 → pm_I h2 m 3 = xv (pm_I (pm_setI h 592 12 (Int32.ofNat (p1 + sz))) m 3) (pm_I (pm_setI h 592 12 (Int32.ofNat (p1 + sz))) 592 13) (bigB a) → pBo m eo el h2 i a → pEn eo el h2 a → a.2.2.2.1 < p2 → p1 < p2 → p2 ≤ p1 + sz → ¬ p2 < p1 + sz → ms_Q F R (pm_lim sX16_readsBodies (.inl (592, Int64.ofNat c, Int64.ofNat k + 1, pm_setI (rm h2 (Int32.ofNat p2) f q) 592 12 (pm_I (rm h (Int32.ofNat p1) f q) 592 12)))) (o' a p2) := by
      intro i hi ik a p2 h2 e2 g E2 i3 Pb Pe c3 c4 c5 c6
      rw [k1, rm_12, ie, rm_o _ _ _ _ _ (show 12 ≠ 11 by decide) (show 12 ≠ 7 by decide) (show 12 ≠ 8 by decide)]
      have w : ∀ x y, x ≠ 592 → pm_I (pm_setI h2 592 12 (Int32.ofNat e)) x y = pm_I h2 x y := fun x y hx => by rw [ev_II, if_neg hx]
      have v : ∀ x y, ¬ boI m eo el i p1 x y → x ≠ 592 → pm_I h2 x y = pm_I h x y := fun x y hn hx => by rw [g.2.2.2.2.1 x y hn, ev_II, if_neg hx]
      have gg : gF (rBoI m eo el p) (rBoL m) h (pm_setI h2 592 12 (Int32.ofNat e)) := by
        refine ⟨g.1, g.2.1, g.2.2.1, g.2.2.2.1, fun x y hn => ?_, fun x y hn => g.2.2.2.2.2 x y (fun z => hn z.1)⟩
        have hn' : ¬ boI m eo el i p1 x y := fun z => hn (z.elim (fun z => .inl (ep_m (by omega) z)) (fun z => .inr ⟨z.1, z.2.1⟩))
        by_cases x5 : x = 592
        · subst x5
          rw [ev_II, if_pos rfl]
          by_cases y2 : y = 12
          · rw [if_pos y2, y2]; exact ie.symm
          · rw [if_neg y2, g.2.2.2.2.1 592 y hn', ev_II, if_pos rfl, if_neg y2]
        · rw [w x y x5, v x y hn' x5]
      have keo : ∀ y, y < p → pm_I (pm_setI h2 592 12 (Int32.ofNat e)) eo y = pm_I h eo y := fun y hy => gg.2.2.2.2.1 eo y (by unfold rBoI epI; omega)
      have kel : ∀ y, y < p → pm_I (pm_setI h2 592 12 (Int32.ofNat e)) el y = pm_I h el y := fun y hy => gg.2.2.2.2.1 el y (by unfold rBoI epI; omega)
      refine next a p2 _ (by rw [e2, sp_br, if_neg c6]) gg ⟨fun cc => ?_, fun a' ha' => ?_, mE_k E2 (fun y => w _ _ (by omega)), ?_, ?_⟩ (by omega) (by omega)
      · have ik := ik cc
        subst ik
        have u : ∀ x y, m + 35 ≤ x ∧ x ≤ m + 38 → y ≠ i → pm_I (pm_setI h2 592 12 (Int32.ofNat e)) x y = pm_I h x y ∧ pm_L (pm_setI h2 592 12 (Int32.ofNat e)) x y = pm_L h x y := fun x y hx hy => ⟨by rw [w _ _ (by omega), v _ _ (by unfold boI epI; omega) (by omega)], by rw [ev_LI]; exact g.2.2.2.2.2 x y (by unfold boL; omega)⟩
        refine cR_app (cn1 cc) (fun j x hj z => ?_) (fun _ => ?_)
        · rw [hl] at hj
          unfold pBo at z ⊢
          rw [(u (m + 35) j (by omega) hj).1, (u (m + 36) j (by omega) hj).2, (u (m + 37) j (by omega) hj).1, (u (m + 38) j (by omega) hj).1]
          exact z
        · rw [hl]
          unfold pBo at Pb ⊢
          rw [w _ _ (by omega), w _ _ (by omega), w _ _ (by omega), ev_LI]
          exact Pb
      · rcases List.mem_append.mp ha' with z | z
        · obtain ⟨z1, z2⟩ := cn2 a' z
          exact ⟨pEn_k z1 z2 keo kel, by omega⟩
        · rw [List.mem_singleton.mp z]
          exact ⟨pEn_k (p := p2) Pe c3 (fun y _ => w _ _ (by omega)) (fun y _ => w _ _ (by omega)), c3⟩
      · rw [w _ _ (by omega), i3, ev_II, if_neg (by omega), ev_II, if_pos rfl, if_neg (by decide), cn4, cn5, xv_or, any_app]
      · rw [ev_II, if_pos rfl, if_neg (by decide), g.2.2.2.2.1 592 13 (by unfold boI epI; omega), ev_II, if_pos rfl, if_neg (by decide)]
        exact cn5
    have behind : ∀ i, i < 64 → (c ≤ 64 → i = k) → ∀ (K' : pm_H → Option (((Nat × Int64 × Int64 × pm_H) ⊕ (Nat × Int64 × Int64 × Int64 × pm_H)) ⊕ ((Nat × pm_H) ⊕ pm_H))), (∀ w, K' w = if pm_kd w 592 = 16 then if (pm_I w 592 12) ≤ (pm_I w 592 11) then (pm_let (Int64.ofNat k + 1) fun y36 => some (.inl (.inl ((592, Int64.ofNat c, y36, pm_setI w 592 12 (pm_I (rm h (Int32.ofNat p1) f q) 592 12)))))) else ((fX16_stops w 592 3 (pm_I w 592 11)).bind fun v38 => pt_s v38 fun w40 => if pm_kd w40 592 = 16 then pm_let (Int64.ofNat k + 1) fun y43 => some (.inl (.inl ((592, Int64.ofNat c, y43, pm_setI w40 592 12 (pm_I (rm h (Int32.ofNat p1) f q) 592 12))))) else none) else none) → ms_Q F R (ev_k sX16_readsBodies ((fX16_readsBody (rm (pm_setI h 592 12 (Int32.ofNat (p1 + sz))) (Int32.ofNat p1) f q) 592 (Int32.ofNat i)).bind fun v => pt_s v K')) (sp_b (sp_bd B (p1 + sz) d p1) fun v p => sp_b (if p < p1 + sz then .inl (3, p) else .inr (v, p)) o') := by
      intro i hi ik K' hK
      refine s_c (ms_bd hi C1 E1 (Nat.le_add_right _ _) f q) (fun h' y => hF h' ⟨_, y⟩) ?_
      rintro a p2 r e2 ⟨h2, er, g, E2, i3, Pb, Pe, c3, c4, c5⟩
      subst er
      have y2 := bo_y C1 g
      have C2 := mC_F C1 y2
      rw [hK]
      refine s_t C2.1.1 ?_
      have cm : (pm_I (rm h2 (Int32.ofNat p2) f q) 592 12 ≤ pm_I (rm h2 (Int32.ofNat p2) f q) 592 11) = (p1 + sz ≤ p2) := by rw [rm_12, C2.2.2.2.2.1, rm_11, nn_le (by omega) (by omega)]
      by_cases c6 : p2 < p1 + sz
      · rw [if_pos c6, sp_bl]
        refine s_f (show ¬ pm_I (rm h2 (Int32.ofNat p2) f q) 592 12 ≤ pm_I (rm h2 (Int32.ofNat p2) f q) 592 11 by rw [cm]; omega) ?_
        exact q_stop (γ := Nat) C2 (hF h2 ⟨_, y2⟩) rfl rfl
      · rw [if_neg c6, sp_br]
        refine s_t (show pm_I (rm h2 (Int32.ofNat p2) f q) 592 12 ≤ pm_I (rm h2 (Int32.ofNat p2) f q) 592 11 by rw [cm]; omega) (s_l (s_n ?_))
        exact fin i hi ik a p2 h2 e2 g E2 i3 Pb Pe c3 c4 c5 c6
    by_cases k6 : k < 64
    · refine s_f (show ¬ (64 : Int64) ≤ Int64.ofNat k by rw [n6_64, ll_le (by omega) (by omega)]; omega) ?_
      rw [ll_t3]
      exact behind k k6 (fun _ => rfl) _ (fun w => rfl)
    · refine s_t (show (64 : Int64) ≤ Int64.ofNat k by rw [n6_64, ll_le (by omega) (by omega)]; omega) ?_
      exact behind 63 (by decide) (fun z => by omega) _ (fun w => rfl)
theorem ms_hBo {h : pm_H} {p : Nat} (C : mC h n b m eo el e d B) (E : mE h n el p) (hp : p ≤ e) (f q : Int32) : ms_Q (fun h' => yB m eo el h h') (fun l p' r => ∃ h', r = rm h' (Int32.ofNat p') f q ∧ gF (rBoI m eo el p) (hBoL m) h h' ∧ (l.length ≤ 64 → cR (pBo m eo el) h' l) ∧ (∀ a, a ∈ l → pEn eo el h' a ∧ a.2.2.2.1 < p') ∧ mE h' n el p' ∧ pm_I h' m 3 = xv (pm_I h m 3) (pm_I h 592 13) (l.any bigB) ∧ pm_L h' m 50 = Int64.ofNat l.length ∧ l.length < 4294967296 ∧ p < p' ∧ p' ≤ e) (fX16_readsBodies (rm h (Int32.ofNat p) f q) 592) (sp_boS B e d p) := by
  have hm : 648 < m := mC_m C
  obtain ⟨d1, d2, d3⟩ := mC_d C
  obtain ⟨s1, s2⟩ := mC_s C
  have K : pm_kd h 592 = 16 := C.1.1
  have rr := C.1.2.1
  have km := C.1.2.2.1
  unfold fX16_readsBodies sp_boS
  refine q_t K (q_c (MR_Q (ms_num C.1 C.2.2.2.2.1 C.2.2.2.2.2.1 hp f q)) (fun h' z => by rw [z]; exact yB_y (yF_r m eo el h)) ?_)
  intro v1 p1 r e1 er
  subst er
  obtain ⟨b1, hp1⟩ := sp_num_b hp e1
  have nv := sp_num_v C.1.2.2.2.2.2.2.2.2.2 e1
  refine q_t K (q_b rr (q_t km ?_))
  rw [rm_sL]
  have g1 : gF (rBoI m eo el p) (hBoL m) h (pm_setL h m 50 (Int64.ofNat v1)) := gF_L _ _ (by unfold hBoL; omega)
  have y1 := hBo_y C g1
  have L := q_rowsY (Y := yB m eo el) (s := sX16_readsBodies) (f := f) (q := q) (st := fun k H => .inl (592, Int64.ofNat v1, Int64.ofNat k, H)) (row := sp_bo B e d) (Cn := fun h' l p => cBo v1 m n eo el (pm_I h m 3) (pm_I h 592 13) h' l p) (AI := fun p => rBoI m eo el p) (AL := fun _ => rBoL m) (c := v1) (fin := fun H => H) (fun h h1 h2 y z => yB_t y z) (fun p p1 x y z w => rBo_m z w) (fun p p1 x y z w => w) (fun p h h' C g => hBo_y C (gF_m g (fun x y z => z) (fun x y z => .inl z))) (fun H => by rw [ev_lm, aX16_readsBodies_0]; unfold tX16_readsBodies_15; rw [if_pos (Int64.le_refl _)]; rfl) (fun k p h l F R o' hk C hp hl cn hF next => q_bo f q nv k p h l F R o' hk C hp hl cn hF next) v1 0 p1 _ [] (Nat.zero_add _) (mC_F C y1) hp1 rfl ⟨fun _ => cR_0 _ _, fun a ha => absurd ha List.not_mem_nil, mE_m E (by omega), rfl, rfl⟩
  refine q_w L (fun h' y => yB_t y1 y) ?_
  rintro l p2 r e2 ⟨h', er, g2, cn, ln, hp2, hp3⟩
  refine ⟨h', er, gF_t g1 (gF_m g2 (fun x y z => rBo_m (by omega) z) (fun x y z => .inl z)), fun z => cn.1 (by rw [← ln]; exact z), cn.2.1, cn.2.2.1, cn.2.2.2.1, ?_, by rw [ln]; exact nv, by omega, hp3⟩
  rw [g2.2.2.2.2.2 m 50 (by unfold rBoL; omega), ev_LL, if_pos rfl, if_pos rfl, ln]
end MBO
