/-! THE REFERENCE READS: all that stands behind an instruction's number -/
def xcb (h : pm_H) (m : Nat) (ob x : Bool) : pm_H := match x with
  | false => h
  | true => (match ob with
    | false => h
    | true => xc h m)
theorem xcb_f (h : pm_H) (m : Nat) (ob : Bool) : xcb h m ob false = h := rfl
theorem sp_cls_2 {op : Nat} (z : sp_cls op = 2) : (40 ≤ op ∧ op ≤ 62) ∨ op = 17 := by
  unfold sp_cls at z
  repeat' split at z
  all_goals omega
theorem sp_cls_3 {op : Nat} (z : sp_cls op = 3) : op = 14 := by
  unfold sp_cls at z
  repeat' split at z
  all_goals omega
theorem sp_cls_4 {op : Nat} (z : sp_cls op = 4) : op = 28 := by
  unfold sp_cls at z
  repeat' split at z
  all_goals omega
theorem sp_cls_5 {op : Nat} (z : sp_cls op = 5) : op = 63 ∨ op = 64 := by
  unfold sp_cls at z
  repeat' split at z
  all_goals omega
theorem sp_cls_6 {op : Nat} (z : sp_cls op = 6) : op = 65 := by
  unfold sp_cls at z
  repeat' split at z
  all_goals omega
theorem sp_cls_7 {op : Nat} (z : sp_cls op = 7) : op = 66 := by
  unfold sp_cls at z
  repeat' split at z
  all_goals omega
theorem sp_cls_8 {op : Nat} (z : sp_cls op = 8) : op = 67 := by
  unfold sp_cls at z
  repeat' split at z
  all_goals omega
theorem sp_cls_9 {op : Nat} (z : sp_cls op = 9) : op = 68 := by
  unfold sp_cls at z
  repeat' split at z
  all_goals omega
theorem sp_cls_10 {op : Nat} (z : sp_cls op = 10) : op = 208 := by
  unfold sp_cls at z
  repeat' split at z
  all_goals omega
theorem sp_cls_11 {op : Nat} (z : sp_cls op = 11) : op = 252 := by
  unfold sp_cls at z
  repeat' split at z
  all_goals omega
theorem sp_cls_12 {op : Nat} (z : 12 ≤ sp_cls op) : ¬ (40 ≤ op ∧ op ≤ 62) ∧ op ≠ 17 ∧ op ≠ 14 ∧ op ≠ 28 ∧ op ≠ 63 ∧ op ≠ 64 ∧ op ≠ 65 ∧ op ≠ 66 ∧ op ≠ 67 ∧ op ≠ 68 ∧ op ≠ 208 ∧ op ≠ 252 := by
  unfold sp_cls at z
  repeat' split at z
  all_goals omega
section MREAD
variable {h : pm_H} {n b m e p p0 sc op : Nat} {B : Nat → Nat} {d : Bool}
theorem ms_ops (C : mS h n b m 595 B) (ie : pm_I h 592 12 = Int32.ofNat e) (he : e ≤ n) (hp : p ≤ e) (r2 : pm_R h m 2 = some sc) (ks : pm_kd h sc = 34) (ls : pm_ln h sc = 13) (hd : (Int32.ofNat 0 ≤ pm_I h sc 12) = (d = true)) (hop : op < 256) (ob : Bool) (f q : Int32) : ms_Q (fun h' => h' = h ∨ h' = xc h m) (fun v p' r => r = rm (xcb h m ob v.2.2.2) (Int32.ofNat p') f q ∧ p ≤ p' ∧ p' ≤ e) (fX16_operands (rm h (Int32.ofNat p) f q) 592 (Int32.ofNat op) (Int32.ofNat p0) (if ob = true then 1 else 0)) (sp_ops B e d op p0 p) := by
  have k16 := C.1
  have hb := C.2.2.2.2.2.2.2.2.2
  have st := ms_stops C
  have al : (fX16_isAlone (Int32.ofNat op) = Int32.ofNat 0) = ¬ (sp_cls op = 0) := sp_alone ⟨op, hop⟩
  have hn : ¬ sp_cls op = 0 → (fX16_hasNumber (Int32.ofNat op) = Int32.ofNat 0) = ¬ (sp_cls op = 1) := sp_hasn ⟨op, hop⟩
  have ac : (fX16_isAccess (Int32.ofNat op) = Int32.ofNat 0) = ¬ (40 ≤ op ∧ op ≤ 62) := sp_isac ⟨op, hop⟩
  have f2 := fun z => sp_cls_2 (op := op) z
  have f3 := fun z => sp_cls_3 (op := op) z
  have f4 := fun z => sp_cls_4 (op := op) z
  have f5 := fun z => sp_cls_5 (op := op) z
  have f6 := fun z => sp_cls_6 (op := op) z
  have f7 := fun z => sp_cls_7 (op := op) z
  have f8 := fun z => sp_cls_8 (op := op) z
  have f9 := fun z => sp_cls_9 (op := op) z
  have f10 := fun z => sp_cls_10 (op := op) z
  have f11 := fun z => sp_cls_11 (op := op) z
  have f12 := fun z => sp_cls_12 (op := op) z
  unfold sp_ops
  by_cases c0 : sp_cls op = 0
  · rw [if_pos c0]
    have al : (fX16_isAlone (Int32.ofNat op) = Int32.ofNat 0) = False := by rw [al]; exact eq_false (fun z => z c0)
    exact ⟨_, by simp (disch := omega) only [fX16_operands, al, xcb_f, n3_0, ↓reduceIte, ev_kl, ev_kr, ↓ev_let, Option.bind_some, pt_k_r, pt_k_l, pt_s_r, pt_s_l, b_let, b_lef, b_ltt, b_ltf, b_eqt, b_eqf, and_true, true_and, and_false, false_and, or_true, true_or, or_false, false_or, not_true_eq_false, not_false_eq_true], rfl, Nat.le_refl _, hp⟩
  rw [if_neg c0]
  have al : (fX16_isAlone (Int32.ofNat op) = Int32.ofNat 0) = True := by rw [al]; exact eq_true c0
  have hn := hn c0
  by_cases c1 : sp_cls op = 1
  · rw [if_pos c1]
    have hn : (fX16_hasNumber (Int32.ofNat op) = Int32.ofNat 0) = False := by rw [hn]; exact eq_false (fun z => z c1)
    have x1 := ms_num C ie he hp f q
    cases ho1 : sp_num B e p with
    | inl w =>
      rw [ho1] at x1
      try rw [sp_bl]
      obtain ⟨a, x1⟩ := x1
      exact ⟨_, a, .inl rfl, by simp (disch := omega) only [fX16_operands, rm_kd, k16, al, hn, ac, st, xcb_f, x1, n3_0, n3_14, n3_17, n3_28, n3_32, n3_63, n3_64, n3_65, n3_66, n3_67, n3_68, n3_208, n3_252, n6_0, n6_1, n6_200, nn_m31, nn_m63, nn_m15, nn_m7, nn_m127, ll_m63, Nat.reduceMod, Nat.reduceAdd, Nat.reduceMul, Nat.reduceSub, nn_sr6, nn_sl6, nn_le, nn_lt, nn_eq, nn_ad, nn_ml, nn_sb, nn_cm, nn_in, nn_t6, ll_le, ll_lt, ll_eq, ll_ad, ll_ml, ll_sb, ll_t3, ↓reduceIte, ev_kl, ev_kr, ↓ev_let, Option.bind_some, pt_k_r, pt_k_l, pt_s_r, pt_s_l, b_let, b_lef, b_ltt, b_ltf, b_eqt, b_eqf, and_true, true_and, and_false, false_and, or_true, true_or, or_false, false_or, not_true_eq_false, not_false_eq_true]⟩
    | inr v =>
      obtain ⟨v1, p1⟩ := v
      try rw [sp_br]
      rw [ho1] at x1
      have x1 : fX16_number (rm h (Int32.ofNat p) f q) 592 = some (.inr (Int64.ofNat v1, rm h (Int32.ofNat p1) f q)) := x1
      obtain ⟨bd1, hp1⟩ := sp_num_b hp ho1
      exact ⟨_, by simp (disch := omega) only [fX16_operands, rm_kd, k16, al, hn, ac, st, xcb_f, x1, n3_0, n3_14, n3_17, n3_28, n3_32, n3_63, n3_64, n3_65, n3_66, n3_67, n3_68, n3_208, n3_252, n6_0, n6_1, n6_200, nn_m31, nn_m63, nn_m15, nn_m7, nn_m127, ll_m63, Nat.reduceMod, Nat.reduceAdd, Nat.reduceMul, Nat.reduceSub, nn_sr6, nn_sl6, nn_le, nn_lt, nn_eq, nn_ad, nn_ml, nn_sb, nn_cm, nn_in, nn_t6, ll_le, ll_lt, ll_eq, ll_ad, ll_ml, ll_sb, ll_t3, ↓reduceIte, ev_kl, ev_kr, ↓ev_let, Option.bind_some, pt_k_r, pt_k_l, pt_s_r, pt_s_l, b_let, b_lef, b_ltt, b_ltf, b_eqt, b_eqf, and_true, true_and, and_false, false_and, or_true, true_or, or_false, false_or, not_true_eq_false, not_false_eq_true], rfl, by omega, by omega⟩
  rw [if_neg c1]
  have hn : (fX16_hasNumber (Int32.ofNat op) = Int32.ofNat 0) = True := by rw [hn]; exact eq_true c1
  by_cases c2 : sp_cls op = 2
  · rw [if_pos c2]
    by_cases c2a : 40 ≤ op ∧ op ≤ 62
    · have ac : (fX16_isAccess (Int32.ofNat op) = Int32.ofNat 0) = False := by rw [ac]; exact eq_false (fun z => z c2a)
      have x1 := ms_num C ie he hp f q
      cases ho1 : sp_num B e p with
      | inl w =>
        rw [ho1] at x1
        try rw [sp_bl]
        obtain ⟨a, x1⟩ := x1
        exact ⟨_, a, .inl rfl, by simp (disch := omega) only [fX16_operands, rm_kd, k16, al, hn, ac, st, xcb_f, x1, n3_0, n3_14, n3_17, n3_28, n3_32, n3_63, n3_64, n3_65, n3_66, n3_67, n3_68, n3_208, n3_252, n6_0, n6_1, n6_200, nn_m31, nn_m63, nn_m15, nn_m7, nn_m127, ll_m63, Nat.reduceMod, Nat.reduceAdd, Nat.reduceMul, Nat.reduceSub, nn_sr6, nn_sl6, nn_le, nn_lt, nn_eq, nn_ad, nn_ml, nn_sb, nn_cm, nn_in, nn_t6, ll_le, ll_lt, ll_eq, ll_ad, ll_ml, ll_sb, ll_t3, ↓reduceIte, ev_kl, ev_kr, ↓ev_let, Option.bind_some, pt_k_r, pt_k_l, pt_s_r, pt_s_l, b_let, b_lef, b_ltt, b_ltf, b_eqt, b_eqf, and_true, true_and, and_false, false_and, or_true, true_or, or_false, false_or, not_true_eq_false, not_false_eq_true]⟩
      | inr v =>
        obtain ⟨v1, p1⟩ := v
        try rw [sp_br]
        rw [ho1] at x1
        have x1 : fX16_number (rm h (Int32.ofNat p) f q) 592 = some (.inr (Int64.ofNat v1, rm h (Int32.ofNat p1) f q)) := x1
        obtain ⟨bd1, hp1⟩ := sp_num_b hp ho1
        have x2 := ms_num C ie he hp1 f q
        cases ho2 : sp_num B e p1 with
        | inl w =>
          rw [ho2] at x2
          try rw [sp_bl]
          obtain ⟨a, x2⟩ := x2
          exact ⟨_, a, .inl rfl, by simp (disch := omega) only [fX16_operands, rm_kd, k16, al, hn, ac, st, xcb_f, x1, x2, n3_0, n3_14, n3_17, n3_28, n3_32, n3_63, n3_64, n3_65, n3_66, n3_67, n3_68, n3_208, n3_252, n6_0, n6_1, n6_200, nn_m31, nn_m63, nn_m15, nn_m7, nn_m127, ll_m63, Nat.reduceMod, Nat.reduceAdd, Nat.reduceMul, Nat.reduceSub, nn_sr6, nn_sl6, nn_le, nn_lt, nn_eq, nn_ad, nn_ml, nn_sb, nn_cm, nn_in, nn_t6, ll_le, ll_lt, ll_eq, ll_ad, ll_ml, ll_sb, ll_t3, ↓reduceIte, ev_kl, ev_kr, ↓ev_let, Option.bind_some, pt_k_r, pt_k_l, pt_s_r, pt_s_l, b_let, b_lef, b_ltt, b_ltf, b_eqt, b_eqf, and_true, true_and, and_false, false_and, or_true, true_or, or_false, false_or, not_true_eq_false, not_false_eq_true]⟩
        | inr v =>
          obtain ⟨v2, p2⟩ := v
          try rw [sp_br]
          rw [ho2] at x2
          have x2 : fX16_number (rm h (Int32.ofNat p1) f q) 592 = some (.inr (Int64.ofNat v2, rm h (Int32.ofNat p2) f q)) := x2
          obtain ⟨bd2, hp2⟩ := sp_num_b hp1 ho2
          exact ⟨_, by simp (disch := omega) only [fX16_operands, rm_kd, k16, al, hn, ac, st, xcb_f, x1, x2, n3_0, n3_14, n3_17, n3_28, n3_32, n3_63, n3_64, n3_65, n3_66, n3_67, n3_68, n3_208, n3_252, n6_0, n6_1, n6_200, nn_m31, nn_m63, nn_m15, nn_m7, nn_m127, ll_m63, Nat.reduceMod, Nat.reduceAdd, Nat.reduceMul, Nat.reduceSub, nn_sr6, nn_sl6, nn_le, nn_lt, nn_eq, nn_ad, nn_ml, nn_sb, nn_cm, nn_in, nn_t6, ll_le, ll_lt, ll_eq, ll_ad, ll_ml, ll_sb, ll_t3, ↓reduceIte, ev_kl, ev_kr, ↓ev_let, Option.bind_some, pt_k_r, pt_k_l, pt_s_r, pt_s_l, b_let, b_lef, b_ltt, b_ltf, b_eqt, b_eqf, and_true, true_and, and_false, false_and, or_true, true_or, or_false, false_or, not_true_eq_false, not_false_eq_true], rfl, by omega, by omega⟩
    · have ac : (fX16_isAccess (Int32.ofNat op) = Int32.ofNat 0) = True := by rw [ac]; exact eq_true c2a
      have c2b := (f2 c2).resolve_left c2a
      have x1 := ms_num C ie he hp f q
      cases ho1 : sp_num B e p with
      | inl w =>
        rw [ho1] at x1
        try rw [sp_bl]
        obtain ⟨a, x1⟩ := x1
        exact ⟨_, a, .inl rfl, by simp (disch := omega) only [fX16_operands, rm_kd, k16, al, hn, ac, st, xcb_f, x1, n3_0, n3_14, n3_17, n3_28, n3_32, n3_63, n3_64, n3_65, n3_66, n3_67, n3_68, n3_208, n3_252, n6_0, n6_1, n6_200, nn_m31, nn_m63, nn_m15, nn_m7, nn_m127, ll_m63, Nat.reduceMod, Nat.reduceAdd, Nat.reduceMul, Nat.reduceSub, nn_sr6, nn_sl6, nn_le, nn_lt, nn_eq, nn_ad, nn_ml, nn_sb, nn_cm, nn_in, nn_t6, ll_le, ll_lt, ll_eq, ll_ad, ll_ml, ll_sb, ll_t3, ↓reduceIte, ev_kl, ev_kr, ↓ev_let, Option.bind_some, pt_k_r, pt_k_l, pt_s_r, pt_s_l, b_let, b_lef, b_ltt, b_ltf, b_eqt, b_eqf, and_true, true_and, and_false, false_and, or_true, true_or, or_false, false_or, not_true_eq_false, not_false_eq_true]⟩
      | inr v =>
        obtain ⟨v1, p1⟩ := v
        try rw [sp_br]
        rw [ho1] at x1
        have x1 : fX16_number (rm h (Int32.ofNat p) f q) 592 = some (.inr (Int64.ofNat v1, rm h (Int32.ofNat p1) f q)) := x1
        obtain ⟨bd1, hp1⟩ := sp_num_b hp ho1
        have x2 := ms_num C ie he hp1 f q
        cases ho2 : sp_num B e p1 with
        | inl w =>
          rw [ho2] at x2
          try rw [sp_bl]
          obtain ⟨a, x2⟩ := x2
          exact ⟨_, a, .inl rfl, by simp (disch := omega) only [fX16_operands, rm_kd, k16, al, hn, ac, st, xcb_f, x1, x2, n3_0, n3_14, n3_17, n3_28, n3_32, n3_63, n3_64, n3_65, n3_66, n3_67, n3_68, n3_208, n3_252, n6_0, n6_1, n6_200, nn_m31, nn_m63, nn_m15, nn_m7, nn_m127, ll_m63, Nat.reduceMod, Nat.reduceAdd, Nat.reduceMul, Nat.reduceSub, nn_sr6, nn_sl6, nn_le, nn_lt, nn_eq, nn_ad, nn_ml, nn_sb, nn_cm, nn_in, nn_t6, ll_le, ll_lt, ll_eq, ll_ad, ll_ml, ll_sb, ll_t3, ↓reduceIte, ev_kl, ev_kr, ↓ev_let, Option.bind_some, pt_k_r, pt_k_l, pt_s_r, pt_s_l, b_let, b_lef, b_ltt, b_ltf, b_eqt, b_eqf, and_true, true_and, and_false, false_and, or_true, true_or, or_false, false_or, not_true_eq_false, not_false_eq_true]⟩
        | inr v =>
          obtain ⟨v2, p2⟩ := v
          try rw [sp_br]
          rw [ho2] at x2
          have x2 : fX16_number (rm h (Int32.ofNat p1) f q) 592 = some (.inr (Int64.ofNat v2, rm h (Int32.ofNat p2) f q)) := x2
          obtain ⟨bd2, hp2⟩ := sp_num_b hp1 ho2
          exact ⟨_, by simp (disch := omega) only [fX16_operands, rm_kd, k16, al, hn, ac, st, xcb_f, x1, x2, n3_0, n3_14, n3_17, n3_28, n3_32, n3_63, n3_64, n3_65, n3_66, n3_67, n3_68, n3_208, n3_252, n6_0, n6_1, n6_200, nn_m31, nn_m63, nn_m15, nn_m7, nn_m127, ll_m63, Nat.reduceMod, Nat.reduceAdd, Nat.reduceMul, Nat.reduceSub, nn_sr6, nn_sl6, nn_le, nn_lt, nn_eq, nn_ad, nn_ml, nn_sb, nn_cm, nn_in, nn_t6, ll_le, ll_lt, ll_eq, ll_ad, ll_ml, ll_sb, ll_t3, ↓reduceIte, ev_kl, ev_kr, ↓ev_let, Option.bind_some, pt_k_r, pt_k_l, pt_s_r, pt_s_l, b_let, b_lef, b_ltt, b_ltf, b_eqt, b_eqf, and_true, true_and, and_false, false_and, or_true, true_or, or_false, false_or, not_true_eq_false, not_false_eq_true], rfl, by omega, by omega⟩
  rw [if_neg c2]
  by_cases c3 : sp_cls op = 3
  · rw [if_pos c3]
    have o14 := f3 c3
    have ac : (fX16_isAccess (Int32.ofNat op) = Int32.ofNat 0) = True := by rw [ac]; exact eq_true (by omega)
    have x1 := ms_num C ie he hp f q
    cases ho1 : sp_num B e p with
    | inl w =>
      rw [ho1] at x1
      try rw [sp_bl]
      obtain ⟨a, x1⟩ := x1
      exact ⟨_, a, .inl rfl, by simp (disch := omega) only [fX16_operands, rm_kd, k16, al, hn, ac, st, xcb_f, x1, n3_0, n3_14, n3_17, n3_28, n3_32, n3_63, n3_64, n3_65, n3_66, n3_67, n3_68, n3_208, n3_252, n6_0, n6_1, n6_200, nn_m31, nn_m63, nn_m15, nn_m7, nn_m127, ll_m63, Nat.reduceMod, Nat.reduceAdd, Nat.reduceMul, Nat.reduceSub, nn_sr6, nn_sl6, nn_le, nn_lt, nn_eq, nn_ad, nn_ml, nn_sb, nn_cm, nn_in, nn_t6, ll_le, ll_lt, ll_eq, ll_ad, ll_ml, ll_sb, ll_t3, ↓reduceIte, ev_kl, ev_kr, ↓ev_let, Option.bind_some, pt_k_r, pt_k_l, pt_s_r, pt_s_l, b_let, b_lef, b_ltt, b_ltf, b_eqt, b_eqf, and_true, true_and, and_false, false_and, or_true, true_or, or_false, false_or, not_true_eq_false, not_false_eq_true]⟩
    | inr v =>
      obtain ⟨v1, p1⟩ := v
      try rw [sp_br]
      rw [ho1] at x1
      have x1 : fX16_number (rm h (Int32.ofNat p) f q) 592 = some (.inr (Int64.ofNat v1, rm h (Int32.ofNat p1) f q)) := x1
      obtain ⟨bd1, hp1⟩ := sp_num_b hp ho1
      have nv := sp_num_v hb ho1
      have s1 : ∀ bb : Bool, decide (200 < v1) = bb → fX16_operands (rm h (Int32.ofNat p) f q) 592 (Int32.ofNat op) (Int32.ofNat p0) (if ob = true then 1 else 0) = pm_lim sX16_operands (.inr (.inr (592, Int64.ofNat v1, Int64.ofNat 0, rm (xcb h m ob bb) (Int32.ofNat p1) f q))) := by
        intro bb hbb
        have ex0 := fun a => ms_exc0 (rm h a f q)
        have ex1 := fun a => ms_exc C a f q
        cases ob with
        | false =>
          have e : xcb h m false bb = h := by cases bb <;> rfl
          rw [e, if_neg (by decide)]
          simp (disch := omega) only [fX16_operands, rm_kd, k16, al, hn, ac, st, xcb_f, x1, n3_0, n3_14, n3_17, n3_28, n3_32, n3_63, n3_64, n3_65, n3_66, n3_67, n3_68, n3_208, n3_252, n6_0, n6_1, n6_200, nn_m31, nn_m63, nn_m15, nn_m7, nn_m127, ll_m63, Nat.reduceMod, Nat.reduceAdd, Nat.reduceMul, Nat.reduceSub, nn_sr6, nn_sl6, nn_le, nn_lt, nn_eq, nn_ad, nn_ml, nn_sb, nn_cm, nn_in, nn_t6, ll_le, ll_lt, ll_eq, ll_ad, ll_ml, ll_sb, ll_t3, ↓reduceIte, ev_kl, ev_kr, ↓ev_let, Option.bind_some, pt_k_r, pt_k_l, pt_s_r, pt_s_l, b_let, b_lef, b_ltt, b_ltf, b_eqt, b_eqf, and_true, true_and, and_false, false_and, or_true, true_or, or_false, false_or, not_true_eq_false, not_false_eq_true]
        | true =>
          rw [if_pos rfl]
          by_cases cx : 200 < v1
          · have : bb = true := by rw [← hbb]; exact decide_eq_true cx
            subst this
            simp (disch := omega) only [fX16_operands, rm_kd, k16, al, hn, ac, st, xcb_f, x1, ex0, ex1, xcb, n3_0, n3_1, n3_14, n3_17, n3_28, n3_63, n3_64, n3_65, n3_66, n3_67, n3_68, n3_208, n3_252, n6_0, n6_1, n6_200, nn_m31, nn_m63, nn_m15, nn_m7, nn_m127, ll_m63, Nat.reduceMod, Nat.reduceAdd, Nat.reduceMul, Nat.reduceSub, nn_sr6, nn_sl6, nn_le, nn_lt, nn_eq, nn_ad, nn_ml, nn_sb, nn_cm, nn_in, nn_t6, ll_le, ll_lt, ll_eq, ll_ad, ll_ml, ll_sb, ll_t3, ↓reduceIte, ev_kl, ev_kr, ↓ev_let, Option.bind_some, pt_k_r, pt_k_l, pt_s_r, pt_s_l, b_let, b_lef, b_ltt, b_ltf, b_eqt, b_eqf, and_true, true_and, and_false, false_and, or_true, true_or, or_false, false_or, not_true_eq_false, not_false_eq_true]
          · have : bb = false := by rw [← hbb]; exact decide_eq_false cx
            subst this
            simp (disch := omega) only [fX16_operands, rm_kd, k16, al, hn, ac, st, xcb_f, x1, ex0, ex1, xcb, n3_0, n3_1, n3_14, n3_17, n3_28, n3_63, n3_64, n3_65, n3_66, n3_67, n3_68, n3_208, n3_252, n6_0, n6_1, n6_200, nn_m31, nn_m63, nn_m15, nn_m7, nn_m127, ll_m63, Nat.reduceMod, Nat.reduceAdd, Nat.reduceMul, Nat.reduceSub, nn_sr6, nn_sl6, nn_le, nn_lt, nn_eq, nn_ad, nn_ml, nn_sb, nn_cm, nn_in, nn_t6, ll_le, ll_lt, ll_eq, ll_ad, ll_ml, ll_sb, ll_t3, ↓reduceIte, ev_kl, ev_kr, ↓ev_let, Option.bind_some, pt_k_r, pt_k_l, pt_s_r, pt_s_l, b_let, b_lef, b_ltt, b_ltf, b_eqt, b_eqf, and_true, true_and, and_false, false_and, or_true, true_or, or_false, false_or, not_true_eq_false, not_false_eq_true]
      have Cx : ∀ bb, mS (xcb h m ob bb) n b m 595 B := fun bb => by
        unfold xcb
        cases bb with
        | false => exact C
        | true => cases ob with
          | false => exact C
          | true => exact mS_x C
      have iex : ∀ bb, pm_I (xcb h m ob bb) 592 12 = Int32.ofNat e := fun bb => by
        unfold xcb
        cases bb with
        | false => exact ie
        | true => cases ob with
          | false => exact ie
          | true => exact (xc_f C 12).trans ie
      have ox : ∀ bb, xcb h m ob bb = h ∨ xcb h m ob bb = xc h m := fun bb => by
        unfold xcb
        cases bb with
        | false => exact .inl rfl
        | true => cases ob with
          | false => exact .inl rfl
          | true => exact .inr rfl
      have i := ms_lnums (Cx (decide (200 < v1))) (iex _) he f q nv (v1 + 1) 0 p1 (by omega) hp1
      rw [s1 _ rfl]
      cases ho2 : sp_nums B e (v1 + 1) p1 with
      | inl w =>
        rw [ho2] at i
        obtain ⟨h', a, e1, e2⟩ := i
        exact ⟨h', a, by rw [e1]; exact ox _, e2⟩
      | inr v =>
        obtain ⟨u, p2⟩ := v
        rw [ho2] at i
        obtain ⟨r, e1, e2, e3, e4⟩ := i
        have e3 : p1 ≤ p2 := e3
        exact ⟨r, e1, e2, by show p ≤ p2; omega, e4⟩
  rw [if_neg c3]
  by_cases c4 : sp_cls op = 4
  · rw [if_pos c4]
    have o28 := f4 c4
    have ac : (fX16_isAccess (Int32.ofNat op) = Int32.ofNat 0) = True := by rw [ac]; exact eq_true (by omega)
    have x1 := ms_num C ie he hp f q
    cases ho1 : sp_num B e p with
    | inl w =>
      rw [ho1] at x1
      try rw [sp_bl]
      obtain ⟨a, x1⟩ := x1
      exact ⟨_, a, .inl rfl, by simp (disch := omega) only [fX16_operands, rm_kd, k16, al, hn, ac, st, xcb_f, x1, n3_0, n3_14, n3_17, n3_28, n3_32, n3_63, n3_64, n3_65, n3_66, n3_67, n3_68, n3_208, n3_252, n6_0, n6_1, n6_200, nn_m31, nn_m63, nn_m15, nn_m7, nn_m127, ll_m63, Nat.reduceMod, Nat.reduceAdd, Nat.reduceMul, Nat.reduceSub, nn_sr6, nn_sl6, nn_le, nn_lt, nn_eq, nn_ad, nn_ml, nn_sb, nn_cm, nn_in, nn_t6, ll_le, ll_lt, ll_eq, ll_ad, ll_ml, ll_sb, ll_t3, ↓reduceIte, ev_kl, ev_kr, ↓ev_let, Option.bind_some, pt_k_r, pt_k_l, pt_s_r, pt_s_l, b_let, b_lef, b_ltt, b_ltf, b_eqt, b_eqf, and_true, true_and, and_false, false_and, or_true, true_or, or_false, false_or, not_true_eq_false, not_false_eq_true]⟩
    | inr v =>
      obtain ⟨v1, p1⟩ := v
      try rw [sp_br]
      rw [ho1] at x1
      have x1 : fX16_number (rm h (Int32.ofNat p) f q) 592 = some (.inr (Int64.ofNat v1, rm h (Int32.ofNat p1) f q)) := x1
      obtain ⟨bd1, hp1⟩ := sp_num_b hp ho1
      have nv := sp_num_v hb ho1
      have s1 : ∀ bb : Bool, decide (v1 ≠ 1) = bb → fX16_operands (rm h (Int32.ofNat p) f q) 592 (Int32.ofNat op) (Int32.ofNat p0) (if ob = true then 1 else 0) = pm_lim sX16_operands (.inr (.inl (592, Int64.ofNat v1, Int64.ofNat 0, rm (xcb h m ob bb) (Int32.ofNat p1) f q))) := by
        intro bb hbb
        have ex0 := fun a => ms_exc0 (rm h a f q)
        have ex1 := fun a => ms_exc C a f q
        cases ob with
        | false =>
          have e : xcb h m false bb = h := by cases bb <;> rfl
          rw [e, if_neg (by decide)]
          simp (disch := omega) only [fX16_operands, rm_kd, k16, al, hn, ac, st, xcb_f, x1, n3_0, n3_14, n3_17, n3_28, n3_32, n3_63, n3_64, n3_65, n3_66, n3_67, n3_68, n3_208, n3_252, n6_0, n6_1, n6_200, nn_m31, nn_m63, nn_m15, nn_m7, nn_m127, ll_m63, Nat.reduceMod, Nat.reduceAdd, Nat.reduceMul, Nat.reduceSub, nn_sr6, nn_sl6, nn_le, nn_lt, nn_eq, nn_ad, nn_ml, nn_sb, nn_cm, nn_in, nn_t6, ll_le, ll_lt, ll_eq, ll_ad, ll_ml, ll_sb, ll_t3, ↓reduceIte, ev_kl, ev_kr, ↓ev_let, Option.bind_some, pt_k_r, pt_k_l, pt_s_r, pt_s_l, b_let, b_lef, b_ltt, b_ltf, b_eqt, b_eqf, and_true, true_and, and_false, false_and, or_true, true_or, or_false, false_or, not_true_eq_false, not_false_eq_true]
        | true =>
          rw [if_pos rfl]
          by_cases cx : v1 ≠ 1
          · have : bb = true := by rw [← hbb]; exact decide_eq_true cx
            subst this
            simp (disch := omega) only [fX16_operands, rm_kd, k16, al, hn, ac, st, xcb_f, x1, ex0, ex1, xcb, n3_0, n3_1, n3_14, n3_17, n3_28, n3_63, n3_64, n3_65, n3_66, n3_67, n3_68, n3_208, n3_252, n6_0, n6_1, n6_200, nn_m31, nn_m63, nn_m15, nn_m7, nn_m127, ll_m63, Nat.reduceMod, Nat.reduceAdd, Nat.reduceMul, Nat.reduceSub, nn_sr6, nn_sl6, nn_le, nn_lt, nn_eq, nn_ad, nn_ml, nn_sb, nn_cm, nn_in, nn_t6, ll_le, ll_lt, ll_eq, ll_ad, ll_ml, ll_sb, ll_t3, ↓reduceIte, ev_kl, ev_kr, ↓ev_let, Option.bind_some, pt_k_r, pt_k_l, pt_s_r, pt_s_l, b_let, b_lef, b_ltt, b_ltf, b_eqt, b_eqf, and_true, true_and, and_false, false_and, or_true, true_or, or_false, false_or, not_true_eq_false, not_false_eq_true]
          · have : bb = false := by rw [← hbb]; exact decide_eq_false cx
            subst this
            simp (disch := omega) only [fX16_operands, rm_kd, k16, al, hn, ac, st, xcb_f, x1, ex0, ex1, xcb, n3_0, n3_1, n3_14, n3_17, n3_28, n3_63, n3_64, n3_65, n3_66, n3_67, n3_68, n3_208, n3_252, n6_0, n6_1, n6_200, nn_m31, nn_m63, nn_m15, nn_m7, nn_m127, ll_m63, Nat.reduceMod, Nat.reduceAdd, Nat.reduceMul, Nat.reduceSub, nn_sr6, nn_sl6, nn_le, nn_lt, nn_eq, nn_ad, nn_ml, nn_sb, nn_cm, nn_in, nn_t6, ll_le, ll_lt, ll_eq, ll_ad, ll_ml, ll_sb, ll_t3, ↓reduceIte, ev_kl, ev_kr, ↓ev_let, Option.bind_some, pt_k_r, pt_k_l, pt_s_r, pt_s_l, b_let, b_lef, b_ltt, b_ltf, b_eqt, b_eqf, and_true, true_and, and_false, false_and, or_true, true_or, or_false, false_or, not_true_eq_false, not_false_eq_true]
      have Cx : ∀ bb, mS (xcb h m ob bb) n b m 595 B := fun bb => by
        unfold xcb
        cases bb with
        | false => exact C
        | true => cases ob with
          | false => exact C
          | true => exact mS_x C
      have iex : ∀ bb, pm_I (xcb h m ob bb) 592 12 = Int32.ofNat e := fun bb => by
        unfold xcb
        cases bb with
        | false => exact ie
        | true => cases ob with
          | false => exact ie
          | true => exact (xc_f C 12).trans ie
      have ox : ∀ bb, xcb h m ob bb = h ∨ xcb h m ob bb = xc h m := fun bb => by
        unfold xcb
        cases bb with
        | false => exact .inl rfl
        | true => cases ob with
          | false => exact .inl rfl
          | true => exact .inr rfl
      have i := ms_ltys (Cx (decide (v1 ≠ 1))) (iex _) he f q nv v1 0 0 p1 (by omega) hp1
      rw [s1 _ rfl]
      cases ho2 : sp_tys B e v1 0 p1 with
      | inl w =>
        rw [ho2] at i
        obtain ⟨h', a, e1, e2⟩ := i
        exact ⟨h', a, by rw [e1]; exact ox _, e2⟩
      | inr v =>
        obtain ⟨u, p2⟩ := v
        rw [ho2] at i
        obtain ⟨r, e1, e2, e3, e4⟩ := i
        have e3 : p1 ≤ p2 := e3
        exact ⟨r, e1, e2, by show p ≤ p2; omega, e4⟩
  rw [if_neg c4]
  by_cases c5 : sp_cls op = 5
  · rw [if_pos c5]
    have o63 := f5 c5
    have ac : (fX16_isAccess (Int32.ofNat op) = Int32.ofNat 0) = True := by rw [ac]; exact eq_true (by omega)
    by_cases o64 : op = 63
    · skip
      have x1 := ms_small C ie he hp f q (t := 0) (by decide)
      cases ho1 : sp_byte (fun c => decide (c ≤ 0)) 7 B e p with
      | inl w =>
        rw [ho1] at x1
        try rw [sp_bl]
        obtain ⟨a, x1⟩ := x1
        exact ⟨_, a, .inl rfl, by simp (disch := omega) only [fX16_operands, rm_kd, k16, al, hn, ac, st, xcb_f, x1, n3_0, n3_14, n3_17, n3_28, n3_32, n3_63, n3_64, n3_65, n3_66, n3_67, n3_68, n3_208, n3_252, n6_0, n6_1, n6_200, nn_m31, nn_m63, nn_m15, nn_m7, nn_m127, ll_m63, Nat.reduceMod, Nat.reduceAdd, Nat.reduceMul, Nat.reduceSub, nn_sr6, nn_sl6, nn_le, nn_lt, nn_eq, nn_ad, nn_ml, nn_sb, nn_cm, nn_in, nn_t6, ll_le, ll_lt, ll_eq, ll_ad, ll_ml, ll_sb, ll_t3, ↓reduceIte, ev_kl, ev_kr, ↓ev_let, Option.bind_some, pt_k_r, pt_k_l, pt_s_r, pt_s_l, b_let, b_lef, b_ltt, b_ltf, b_eqt, b_eqf, and_true, true_and, and_false, false_and, or_true, true_or, or_false, false_or, not_true_eq_false, not_false_eq_true]⟩
      | inr v =>
        obtain ⟨v1, p1⟩ := v
        try rw [sp_br]
        rw [ho1] at x1
        have x1 : fX16_small (rm h (Int32.ofNat p) f q) 592 (Int32.ofNat 0) = some (.inr (Int32.ofNat v1, rm h (Int32.ofNat p1) f q)) := x1
        obtain ⟨bd1, hp1⟩ := sp_byte_b hp ho1
        exact ⟨_, by simp (disch := omega) only [fX16_operands, rm_kd, k16, al, hn, ac, st, xcb_f, x1, n3_0, n3_14, n3_17, n3_28, n3_32, n3_63, n3_64, n3_65, n3_66, n3_67, n3_68, n3_208, n3_252, n6_0, n6_1, n6_200, nn_m31, nn_m63, nn_m15, nn_m7, nn_m127, ll_m63, Nat.reduceMod, Nat.reduceAdd, Nat.reduceMul, Nat.reduceSub, nn_sr6, nn_sl6, nn_le, nn_lt, nn_eq, nn_ad, nn_ml, nn_sb, nn_cm, nn_in, nn_t6, ll_le, ll_lt, ll_eq, ll_ad, ll_ml, ll_sb, ll_t3, ↓reduceIte, ev_kl, ev_kr, ↓ev_let, Option.bind_some, pt_k_r, pt_k_l, pt_s_r, pt_s_l, b_let, b_lef, b_ltt, b_ltf, b_eqt, b_eqf, and_true, true_and, and_false, false_and, or_true, true_or, or_false, false_or, not_true_eq_false, not_false_eq_true], rfl, by omega, by omega⟩
    · skip
      have x1 := ms_small C ie he hp f q (t := 0) (by decide)
      cases ho1 : sp_byte (fun c => decide (c ≤ 0)) 7 B e p with
      | inl w =>
        rw [ho1] at x1
        try rw [sp_bl]
        obtain ⟨a, x1⟩ := x1
        exact ⟨_, a, .inl rfl, by simp (disch := omega) only [fX16_operands, rm_kd, k16, al, hn, ac, st, xcb_f, x1, n3_0, n3_14, n3_17, n3_28, n3_32, n3_63, n3_64, n3_65, n3_66, n3_67, n3_68, n3_208, n3_252, n6_0, n6_1, n6_200, nn_m31, nn_m63, nn_m15, nn_m7, nn_m127, ll_m63, Nat.reduceMod, Nat.reduceAdd, Nat.reduceMul, Nat.reduceSub, nn_sr6, nn_sl6, nn_le, nn_lt, nn_eq, nn_ad, nn_ml, nn_sb, nn_cm, nn_in, nn_t6, ll_le, ll_lt, ll_eq, ll_ad, ll_ml, ll_sb, ll_t3, ↓reduceIte, ev_kl, ev_kr, ↓ev_let, Option.bind_some, pt_k_r, pt_k_l, pt_s_r, pt_s_l, b_let, b_lef, b_ltt, b_ltf, b_eqt, b_eqf, and_true, true_and, and_false, false_and, or_true, true_or, or_false, false_or, not_true_eq_false, not_false_eq_true]⟩
      | inr v =>
        obtain ⟨v1, p1⟩ := v
        try rw [sp_br]
        rw [ho1] at x1
        have x1 : fX16_small (rm h (Int32.ofNat p) f q) 592 (Int32.ofNat 0) = some (.inr (Int32.ofNat v1, rm h (Int32.ofNat p1) f q)) := x1
        obtain ⟨bd1, hp1⟩ := sp_byte_b hp ho1
        exact ⟨_, by simp (disch := omega) only [fX16_operands, rm_kd, k16, al, hn, ac, st, xcb_f, x1, n3_0, n3_14, n3_17, n3_28, n3_32, n3_63, n3_64, n3_65, n3_66, n3_67, n3_68, n3_208, n3_252, n6_0, n6_1, n6_200, nn_m31, nn_m63, nn_m15, nn_m7, nn_m127, ll_m63, Nat.reduceMod, Nat.reduceAdd, Nat.reduceMul, Nat.reduceSub, nn_sr6, nn_sl6, nn_le, nn_lt, nn_eq, nn_ad, nn_ml, nn_sb, nn_cm, nn_in, nn_t6, ll_le, ll_lt, ll_eq, ll_ad, ll_ml, ll_sb, ll_t3, ↓reduceIte, ev_kl, ev_kr, ↓ev_let, Option.bind_some, pt_k_r, pt_k_l, pt_s_r, pt_s_l, b_let, b_lef, b_ltt, b_ltf, b_eqt, b_eqf, and_true, true_and, and_false, false_and, or_true, true_or, or_false, false_or, not_true_eq_false, not_false_eq_true], rfl, by omega, by omega⟩
  rw [if_neg c5]
  by_cases c6 : sp_cls op = 6
  · rw [if_pos c6]
    have oo := f6 c6
    have ac : (fX16_isAccess (Int32.ofNat op) = Int32.ofNat 0) = True := by rw [ac]; exact eq_true (by omega)
    have x1 := ms_sig C ie he hp f q (bits := 32) (.inl rfl)
    cases ho1 : sp_sig B e 32 p with
    | inl w =>
      rw [ho1] at x1
      try rw [sp_bl]
      obtain ⟨a, x1⟩ := x1
      exact ⟨_, a, .inl rfl, by simp (disch := omega) only [fX16_operands, rm_kd, k16, al, hn, ac, st, xcb_f, x1, n3_0, n3_14, n3_17, n3_28, n3_32, n3_63, n3_64, n3_65, n3_66, n3_67, n3_68, n3_208, n3_252, n6_0, n6_1, n6_200, nn_m31, nn_m63, nn_m15, nn_m7, nn_m127, ll_m63, Nat.reduceMod, Nat.reduceAdd, Nat.reduceMul, Nat.reduceSub, nn_sr6, nn_sl6, nn_le, nn_lt, nn_eq, nn_ad, nn_ml, nn_sb, nn_cm, nn_in, nn_t6, ll_le, ll_lt, ll_eq, ll_ad, ll_ml, ll_sb, ll_t3, ↓reduceIte, ev_kl, ev_kr, ↓ev_let, Option.bind_some, pt_k_r, pt_k_l, pt_s_r, pt_s_l, b_let, b_lef, b_ltt, b_ltf, b_eqt, b_eqf, and_true, true_and, and_false, false_and, or_true, true_or, or_false, false_or, not_true_eq_false, not_false_eq_true]⟩
    | inr v =>
      obtain ⟨v1, p1⟩ := v
      try rw [sp_br]
      rw [ho1] at x1
      have x1 : fX16_signed (rm h (Int32.ofNat p) f q) 592 (Int32.ofNat 32) = some (.inr (v1, rm h (Int32.ofNat p1) f q)) := x1
      obtain ⟨bd1, hp1⟩ := sp_sig_b hp ho1
      exact ⟨_, by simp (disch := omega) only [fX16_operands, rm_kd, k16, al, hn, ac, st, xcb_f, x1, n3_0, n3_14, n3_17, n3_28, n3_32, n3_63, n3_64, n3_65, n3_66, n3_67, n3_68, n3_208, n3_252, n6_0, n6_1, n6_200, nn_m31, nn_m63, nn_m15, nn_m7, nn_m127, ll_m63, Nat.reduceMod, Nat.reduceAdd, Nat.reduceMul, Nat.reduceSub, nn_sr6, nn_sl6, nn_le, nn_lt, nn_eq, nn_ad, nn_ml, nn_sb, nn_cm, nn_in, nn_t6, ll_le, ll_lt, ll_eq, ll_ad, ll_ml, ll_sb, ll_t3, ↓reduceIte, ev_kl, ev_kr, ↓ev_let, Option.bind_some, pt_k_r, pt_k_l, pt_s_r, pt_s_l, b_let, b_lef, b_ltt, b_ltf, b_eqt, b_eqf, and_true, true_and, and_false, false_and, or_true, true_or, or_false, false_or, not_true_eq_false, not_false_eq_true], rfl, by omega, by omega⟩
  rw [if_neg c6]
  by_cases c7 : sp_cls op = 7
  · rw [if_pos c7]
    have oo := f7 c7
    have ac : (fX16_isAccess (Int32.ofNat op) = Int32.ofNat 0) = True := by rw [ac]; exact eq_true (by omega)
    have x1 := ms_sig C ie he hp f q (bits := 64) (.inr (.inr rfl))
    cases ho1 : sp_sig B e 64 p with
    | inl w =>
      rw [ho1] at x1
      try rw [sp_bl]
      obtain ⟨a, x1⟩ := x1
      exact ⟨_, a, .inl rfl, by simp (disch := omega) only [fX16_operands, rm_kd, k16, al, hn, ac, st, xcb_f, x1, n3_0, n3_14, n3_17, n3_28, n3_32, n3_63, n3_64, n3_65, n3_66, n3_67, n3_68, n3_208, n3_252, n6_0, n6_1, n6_200, nn_m31, nn_m63, nn_m15, nn_m7, nn_m127, ll_m63, Nat.reduceMod, Nat.reduceAdd, Nat.reduceMul, Nat.reduceSub, nn_sr6, nn_sl6, nn_le, nn_lt, nn_eq, nn_ad, nn_ml, nn_sb, nn_cm, nn_in, nn_t6, ll_le, ll_lt, ll_eq, ll_ad, ll_ml, ll_sb, ll_t3, ↓reduceIte, ev_kl, ev_kr, ↓ev_let, Option.bind_some, pt_k_r, pt_k_l, pt_s_r, pt_s_l, b_let, b_lef, b_ltt, b_ltf, b_eqt, b_eqf, and_true, true_and, and_false, false_and, or_true, true_or, or_false, false_or, not_true_eq_false, not_false_eq_true]⟩
    | inr v =>
      obtain ⟨v1, p1⟩ := v
      try rw [sp_br]
      rw [ho1] at x1
      have x1 : fX16_signed (rm h (Int32.ofNat p) f q) 592 (Int32.ofNat 64) = some (.inr (v1, rm h (Int32.ofNat p1) f q)) := x1
      obtain ⟨bd1, hp1⟩ := sp_sig_b hp ho1
      exact ⟨_, by simp (disch := omega) only [fX16_operands, rm_kd, k16, al, hn, ac, st, xcb_f, x1, n3_0, n3_14, n3_17, n3_28, n3_32, n3_63, n3_64, n3_65, n3_66, n3_67, n3_68, n3_208, n3_252, n6_0, n6_1, n6_200, nn_m31, nn_m63, nn_m15, nn_m7, nn_m127, ll_m63, Nat.reduceMod, Nat.reduceAdd, Nat.reduceMul, Nat.reduceSub, nn_sr6, nn_sl6, nn_le, nn_lt, nn_eq, nn_ad, nn_ml, nn_sb, nn_cm, nn_in, nn_t6, ll_le, ll_lt, ll_eq, ll_ad, ll_ml, ll_sb, ll_t3, ↓reduceIte, ev_kl, ev_kr, ↓ev_let, Option.bind_some, pt_k_r, pt_k_l, pt_s_r, pt_s_l, b_let, b_lef, b_ltt, b_ltf, b_eqt, b_eqf, and_true, true_and, and_false, false_and, or_true, true_or, or_false, false_or, not_true_eq_false, not_false_eq_true], rfl, by omega, by omega⟩
  rw [if_neg c7]
  by_cases c8 : sp_cls op = 8
  · rw [if_pos c8]
    have oo := f8 c8
    have ac : (fX16_isAccess (Int32.ofNat op) = Int32.ofNat 0) = True := by rw [ac]; exact eq_true (by omega)
    have i := ms_lles C ie he f q (op := op) (c := 4) (by omega) 4 0 0 p rfl hp
    have s1 : fX16_operands (rm h (Int32.ofNat p) f q) 592 (Int32.ofNat op) (Int32.ofNat p0) (if ob = true then 1 else 0) = pm_lim sX16_operands (.inl (592, Int32.ofNat op, Int32.ofNat 0, rm h (Int32.ofNat p) f q)) := by
      simp (disch := omega) only [fX16_operands, rm_kd, k16, al, hn, ac, st, xcb_f, n3_0, n3_14, n3_17, n3_28, n3_32, n3_63, n3_64, n3_65, n3_66, n3_67, n3_68, n3_208, n3_252, n6_0, n6_1, n6_200, nn_m31, nn_m63, nn_m15, nn_m7, nn_m127, ll_m63, Nat.reduceMod, Nat.reduceAdd, Nat.reduceMul, Nat.reduceSub, nn_sr6, nn_sl6, nn_le, nn_lt, nn_eq, nn_ad, nn_ml, nn_sb, nn_cm, nn_in, nn_t6, ll_le, ll_lt, ll_eq, ll_ad, ll_ml, ll_sb, ll_t3, ↓reduceIte, ev_kl, ev_kr, ↓ev_let, Option.bind_some, pt_k_r, pt_k_l, pt_s_r, pt_s_l, b_let, b_lef, b_ltt, b_ltf, b_eqt, b_eqf, and_true, true_and, and_false, false_and, or_true, true_or, or_false, false_or, not_true_eq_false, not_false_eq_true]
    rw [s1]
    cases ho2 : sp_les B e 4 0 0 p with
    | inl w =>
      rw [ho2] at i
      obtain ⟨h', a, e1, e2⟩ := i
      exact ⟨h', a, .inl e1, e2⟩
    | inr v =>
      obtain ⟨u, p2⟩ := v
      rw [ho2] at i
      obtain ⟨r, e1, e2, e3, e4⟩ := i
      exact ⟨r, e1, e2, e3, e4⟩
  rw [if_neg c8]
  by_cases c9 : sp_cls op = 9
  · rw [if_pos c9]
    have oo := f9 c9
    have ac : (fX16_isAccess (Int32.ofNat op) = Int32.ofNat 0) = True := by rw [ac]; exact eq_true (by omega)
    have i := ms_lles C ie he f q (op := op) (c := 8) (by omega) 8 0 0 p rfl hp
    have s1 : fX16_operands (rm h (Int32.ofNat p) f q) 592 (Int32.ofNat op) (Int32.ofNat p0) (if ob = true then 1 else 0) = pm_lim sX16_operands (.inl (592, Int32.ofNat op, Int32.ofNat 0, rm h (Int32.ofNat p) f q)) := by
      simp (disch := omega) only [fX16_operands, rm_kd, k16, al, hn, ac, st, xcb_f, n3_0, n3_14, n3_17, n3_28, n3_32, n3_63, n3_64, n3_65, n3_66, n3_67, n3_68, n3_208, n3_252, n6_0, n6_1, n6_200, nn_m31, nn_m63, nn_m15, nn_m7, nn_m127, ll_m63, Nat.reduceMod, Nat.reduceAdd, Nat.reduceMul, Nat.reduceSub, nn_sr6, nn_sl6, nn_le, nn_lt, nn_eq, nn_ad, nn_ml, nn_sb, nn_cm, nn_in, nn_t6, ll_le, ll_lt, ll_eq, ll_ad, ll_ml, ll_sb, ll_t3, ↓reduceIte, ev_kl, ev_kr, ↓ev_let, Option.bind_some, pt_k_r, pt_k_l, pt_s_r, pt_s_l, b_let, b_lef, b_ltt, b_ltf, b_eqt, b_eqf, and_true, true_and, and_false, false_and, or_true, true_or, or_false, false_or, not_true_eq_false, not_false_eq_true]
    rw [s1]
    cases ho2 : sp_les B e 8 0 0 p with
    | inl w =>
      rw [ho2] at i
      obtain ⟨h', a, e1, e2⟩ := i
      exact ⟨h', a, .inl e1, e2⟩
    | inr v =>
      obtain ⟨u, p2⟩ := v
      rw [ho2] at i
      obtain ⟨r, e1, e2, e3, e4⟩ := i
      exact ⟨r, e1, e2, e3, e4⟩
  rw [if_neg c9]
  by_cases c10 : sp_cls op = 10
  · rw [if_pos c10]
    have oo := f10 c10
    have ac : (fX16_isAccess (Int32.ofNat op) = Int32.ofNat 0) = True := by rw [ac]; exact eq_true (by omega)
    have x1 := ms_ref C ie he hp f q
    cases ho1 : sp_byte sp_isR 8 B e p with
    | inl w =>
      rw [ho1] at x1
      try rw [sp_bl]
      obtain ⟨a, x1⟩ := x1
      exact ⟨_, a, .inl rfl, by simp (disch := omega) only [fX16_operands, rm_kd, k16, al, hn, ac, st, xcb_f, x1, n3_0, n3_14, n3_17, n3_28, n3_32, n3_63, n3_64, n3_65, n3_66, n3_67, n3_68, n3_208, n3_252, n6_0, n6_1, n6_200, nn_m31, nn_m63, nn_m15, nn_m7, nn_m127, ll_m63, Nat.reduceMod, Nat.reduceAdd, Nat.reduceMul, Nat.reduceSub, nn_sr6, nn_sl6, nn_le, nn_lt, nn_eq, nn_ad, nn_ml, nn_sb, nn_cm, nn_in, nn_t6, ll_le, ll_lt, ll_eq, ll_ad, ll_ml, ll_sb, ll_t3, ↓reduceIte, ev_kl, ev_kr, ↓ev_let, Option.bind_some, pt_k_r, pt_k_l, pt_s_r, pt_s_l, b_let, b_lef, b_ltt, b_ltf, b_eqt, b_eqf, and_true, true_and, and_false, false_and, or_true, true_or, or_false, false_or, not_true_eq_false, not_false_eq_true]⟩
    | inr v =>
      obtain ⟨v1, p1⟩ := v
      try rw [sp_br]
      rw [ho1] at x1
      have x1 : fX16_referenceType (rm h (Int32.ofNat p) f q) 592 = some (.inr (Int32.ofNat v1, rm h (Int32.ofNat p1) f q)) := x1
      obtain ⟨bd1, hp1⟩ := sp_byte_b hp ho1
      exact ⟨_, by simp (disch := omega) only [fX16_operands, rm_kd, k16, al, hn, ac, st, xcb_f, x1, n3_0, n3_14, n3_17, n3_28, n3_32, n3_63, n3_64, n3_65, n3_66, n3_67, n3_68, n3_208, n3_252, n6_0, n6_1, n6_200, nn_m31, nn_m63, nn_m15, nn_m7, nn_m127, ll_m63, Nat.reduceMod, Nat.reduceAdd, Nat.reduceMul, Nat.reduceSub, nn_sr6, nn_sl6, nn_le, nn_lt, nn_eq, nn_ad, nn_ml, nn_sb, nn_cm, nn_in, nn_t6, ll_le, ll_lt, ll_eq, ll_ad, ll_ml, ll_sb, ll_t3, ↓reduceIte, ev_kl, ev_kr, ↓ev_let, Option.bind_some, pt_k_r, pt_k_l, pt_s_r, pt_s_l, b_let, b_lef, b_ltt, b_ltf, b_eqt, b_eqf, and_true, true_and, and_false, false_and, or_true, true_or, or_false, false_or, not_true_eq_false, not_false_eq_true], rfl, by omega, by omega⟩
  rw [if_neg c10]
  by_cases c11 : sp_cls op = 11
  · rw [if_pos c11]
    have oo := f11 c11
    have ac : (fX16_isAccess (Int32.ofNat op) = Int32.ofNat 0) = True := by rw [ac]; exact eq_true (by omega)
    have x1 := ms_fur (p0 := p0) C ie he hp r2 ks ls hd f q
    cases ho1 : sp_fur B e d p0 p with
    | inl w =>
      rw [ho1] at x1
      obtain ⟨h', a, e1, x1⟩ := x1
      subst e1
      exact ⟨_, a, .inl rfl, by simp (disch := omega) only [fX16_operands, rm_kd, k16, al, hn, ac, st, xcb_f, x1, n3_0, n3_14, n3_17, n3_28, n3_32, n3_63, n3_64, n3_65, n3_66, n3_67, n3_68, n3_208, n3_252, n6_0, n6_1, n6_200, nn_m31, nn_m63, nn_m15, nn_m7, nn_m127, ll_m63, Nat.reduceMod, Nat.reduceAdd, Nat.reduceMul, Nat.reduceSub, nn_sr6, nn_sl6, nn_le, nn_lt, nn_eq, nn_ad, nn_ml, nn_sb, nn_cm, nn_in, nn_t6, ll_le, ll_lt, ll_eq, ll_ad, ll_ml, ll_sb, ll_t3, ↓reduceIte, ev_kl, ev_kr, ↓ev_let, Option.bind_some, pt_k_r, pt_k_l, pt_s_r, pt_s_l, b_let, b_lef, b_ltt, b_ltf, b_eqt, b_eqf, and_true, true_and, and_false, false_and, or_true, true_or, or_false, false_or, not_true_eq_false, not_false_eq_true]⟩
    | inr v =>
      obtain ⟨v, p1⟩ := v
      rw [ho1] at x1
      obtain ⟨r, x1, e2, e3, e4, e5⟩ := x1
      have e3 : v.2.2.2 = false := e3
      refine ⟨r, by simp (disch := omega) only [fX16_operands, rm_kd, k16, al, hn, ac, st, xcb_f, x1, n3_0, n3_14, n3_17, n3_28, n3_32, n3_63, n3_64, n3_65, n3_66, n3_67, n3_68, n3_208, n3_252, n6_0, n6_1, n6_200, nn_m31, nn_m63, nn_m15, nn_m7, nn_m127, ll_m63, Nat.reduceMod, Nat.reduceAdd, Nat.reduceMul, Nat.reduceSub, nn_sr6, nn_sl6, nn_le, nn_lt, nn_eq, nn_ad, nn_ml, nn_sb, nn_cm, nn_in, nn_t6, ll_le, ll_lt, ll_eq, ll_ad, ll_ml, ll_sb, ll_t3, ↓reduceIte, ev_kl, ev_kr, ↓ev_let, Option.bind_some, pt_k_r, pt_k_l, pt_s_r, pt_s_l, b_let, b_lef, b_ltt, b_ltf, b_eqt, b_eqf, and_true, true_and, and_false, false_and, or_true, true_or, or_false, false_or, not_true_eq_false, not_false_eq_true], ?_, e4, e5⟩
      show r = rm (xcb h m ob v.2.2.2) _ _ _
      rw [e3]
      exact e2
  rw [if_neg c11]
  have c12 : 12 ≤ sp_cls op := by omega
  obtain ⟨g1, g2, g3, g4, g5, g6, g7, g8, g9, g10, g11, g12⟩ := f12 c12
  have ac : (fX16_isAccess (Int32.ofNat op) = Int32.ofNat 0) = True := by rw [ac]; exact eq_true (by omega)
  exact ⟨h, Int32.ofNat p, .inl rfl, by simp (disch := omega) only [fX16_operands, rm_kd, k16, al, hn, ac, st, xcb_f, n3_0, n3_10, n3_14, n3_17, n3_28, n3_63, n3_64, n3_65, n3_66, n3_67, n3_68, n3_208, n3_252, n6_0, n6_1, n6_200, nn_m31, nn_m63, nn_m15, nn_m7, nn_m127, ll_m63, Nat.reduceMod, Nat.reduceAdd, Nat.reduceMul, Nat.reduceSub, nn_sr6, nn_sl6, nn_le, nn_lt, nn_eq, nn_ad, nn_ml, nn_sb, nn_cm, nn_in, nn_t6, ll_le, ll_lt, ll_eq, ll_ad, ll_ml, ll_sb, ll_t3, ↓reduceIte, ev_kl, ev_kr, ↓ev_let, Option.bind_some, pt_k_r, pt_k_l, pt_s_r, pt_s_l, b_let, b_lef, b_ltt, b_ltf, b_eqt, b_eqf, and_true, true_and, and_false, false_and, or_true, true_or, or_false, false_or, not_true_eq_false, not_false_eq_true]⟩
end MREAD
