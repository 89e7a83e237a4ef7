/-! NUMBERS: what it is that class and reference do alike; bounds of floating results -/
def NQ (op : Int32) (b : Nat) (x y : Int64) : Prop := ∃ v t : Nat, v < 2 ^ b ∧ t ≤ 4 ∧ t ≠ 1 ∧ (∀ h : pm_H, mO h → ∃ u h', fX16_reckons h 592 op x y = some (u, h') ∧ nF h h' ∧ pm_I h' 592 33 = (if t = 0 then pm_I h 592 33 else Int32.ofNat (t - 1)) ∧ (t = 0 → u = Int64.ofNat v)) ∧ ∀ (h : pm_H) (a : Nat), pm_kd h a = 8 → ∃ u, fX8_apply h a op x y = some (u, pm_setI h a 0 (Int32.ofNat t)) ∧ (t = 0 → u = Int64.ofNat v)
theorem ev_II2 (h : pm_H) (a k : Nat) (v w : Int32) : pm_setI (pm_setI h a k v) a k w = pm_setI h a k w := by
  refine congrArg (fun z => (pm_sz h, pm_kd h, pm_ln h, z, pm_L h, pm_R h)) (funext fun x => funext fun y => ?_)
  show (if x = a then (if y = k then w else (if x = a then (if y = k then v else pm_I h x y) else pm_I h x y)) else (if x = a then (if y = k then v else pm_I h x y) else pm_I h x y)) = (if x = a then (if y = k then w else pm_I h x y) else pm_I h x y)
  repeat' split
  all_goals rfl
theorem NQ_0 {op : Int32} {b : Nat} {x y : Int64} {v : Nat} (hv : v < 2 ^ b) (hr : ∀ h, mO h → ∃ h', fX16_reckons h 592 op x y = some (Int64.ofNat v, h') ∧ nG h h') (hc : ∀ (h : pm_H) (a : Nat), pm_kd h a = 8 → fX8_apply h a op x y = some (Int64.ofNat v, pm_setI h a 0 0)) : NQ op b x y :=
  ⟨v, 0, hv, by decide, by decide, fun h O => (hr h O).elim fun h' e => ⟨_, h', e.1, e.2.1, e.2.2, fun _ => rfl⟩, fun h a k => ⟨_, hc h a k, fun _ => rfl⟩⟩
theorem NQ_D {op : Int32} {b : Nat} {x y : Int64} {f : Int64 → Int64} {R : pm_H → Option (Int64 × pm_H)} {C : pm_H → Nat → Option (Int64 × pm_H)} (q : qD b f R C) (hr : ∀ h, pm_kd h 592 = 16 → fX16_reckons h 592 op x y = (R h).bind fun v => some (f v.1, v.2)) (hc : ∀ (h : pm_H) (a : Nat), pm_kd h a = 8 → fX8_apply h a op x y = (C (pm_setI h a 0 0) a).bind fun v => some (f v.1, v.2)) : NQ op b x y := by
  obtain ⟨v, t, hv, t4, t1, e1, e2⟩ := q
  refine ⟨v, t, hv, t4, t1, fun h O => ?_, fun h a k => ?_⟩
  · obtain ⟨u, e, eu⟩ := e1 h O.1
    refine ⟨f u, _, by rw [hr h O.1, e]; rfl, ?_, ?_, eu⟩
    · split
      · exact nF_r h
      · exact nF_I h _ (by omega)
    · split
      · rfl
      · rw [ev_II, if_pos rfl, if_pos rfl]
  · obtain ⟨u, e, eu⟩ := e2 (pm_setI h a 0 0) a k
    refine ⟨f u, ?_, eu⟩
    rw [hc h a k, e, jr_bs]
    by_cases t0 : t = 0
    · rw [if_pos t0, t0]; rfl
    · rw [if_neg t0, ev_II2]
theorem f2_lt (g : Bool) (M : Nat) (E : Int) (s : Bool) : f2 g M E s < 4294967296 := by
  show (if g = true then 2 ^ 31 else 0) + (if M = 0 then 0 else min (rd 24 (-149) M E s) (255 * 2 ^ (24 - 1))) < 4294967296
  have m := Nat.min_le_right (rd 24 (-149) M E s) (255 * 2 ^ (24 - 1))
  have c : 255 * 2 ^ (24 - 1) ≤ 2139095040 := by decide
  have w : (2 : Nat) ^ 31 = 2147483648 := by decide
  split <;> split <;> omega
theorem sw2_le (g : Bool) : sg2 g ≤ 2147483648 := by
  unfold sg2
  split
  · decide
  · exact Nat.zero_le _
theorem fo2_lt (k : Nat) {X Y : Nat} (hX : X < 4294967296) (hY : Y < 4294967296) : fo2 k X Y < 4294967296 := by
  have f := f2_lt
  have s := sw2_le
  have cn : ∀ gx gy, cn2 X gx Y gy < 4294967296 := fun gx gy => by
    unfold cn2 fg
    repeat' split
    all_goals first | exact f _ _ _ _ | omega
  have su : ∀ g, su2 X Y g < 4294967296 := fun g => by
    have s1 := s g
    have s2 := s (ng2 X && g)
    have c1 := cn (ng2 X) g
    unfold su2
    repeat' split
    all_goals omega
  have wo : wo2 (k - 2) X < 4294967296 := by
    unfold wo2
    split
    · omega
    · split
      · exact hX
      · exact f _ _ _ _
  have ro : ro2 X < 4294967296 := by
    unfold ro2
    split
    · exact hX
    · split
      · omega
      · split
        · exact hX
        · exact f _ _ _ _
  have m : ml2 X Y < 4294967296 := by
    have s1 := s (ng2 X ^^ ng2 Y)
    unfold ml2
    split
    · omega
    · split
      · omega
      · split
        · omega
        · exact f _ _ _ _
  have d : dv2 X Y < 4294967296 := by
    have s1 := s (ng2 X ^^ ng2 Y)
    unfold dv2
    split
    · omega
    · split
      · omega
      · split
        · omega
        · exact f _ _ _ _
  have i : ∀ l, mi2 l X Y < 4294967296 := fun l => by
    unfold mi2
    repeat' split
    all_goals omega
  have s1 := s (ng2 Y)
  have p : fp2 X < 4294967296 := by unfold fp2; split <;> omega
  have i1 := i true
  have i2 := i false
  have u1 := su (ng2 Y)
  have u2 := su (ng2 Y ^^ true)
  unfold fo2
  repeat' split
  all_goals first | assumption | omega
theorem f3_lt (g : Bool) (M : Nat) (E : Int) (s : Bool) : f3 g M E s < 18446744073709551616 := by
  show (if g = true then 2 ^ 63 else 0) + (if M = 0 then 0 else min (rd 53 (-1074) M E s) (2047 * 2 ^ (53 - 1))) < 18446744073709551616
  have m := Nat.min_le_right (rd 53 (-1074) M E s) (2047 * 2 ^ (53 - 1))
  have c : 2047 * 2 ^ (53 - 1) ≤ 9218868437227405312 := by decide
  have w : (2 : Nat) ^ 63 = 9223372036854775808 := by decide
  split <;> split <;> omega
theorem sw3_le (g : Bool) : sg3 g ≤ 9223372036854775808 := by
  unfold sg3
  split
  · decide
  · exact Nat.zero_le _
theorem fo3_lt (k : Nat) {X Y : Nat} (hX : X < 18446744073709551616) (hY : Y < 18446744073709551616) : fo3 k X Y < 18446744073709551616 := by
  have f := f3_lt
  have s := sw3_le
  have cn : ∀ gx gy, cn3 X gx Y gy < 18446744073709551616 := fun gx gy => by
    unfold cn3 fg
    repeat' split
    all_goals first | exact f _ _ _ _ | omega
  have su : ∀ g, su3 X Y g < 18446744073709551616 := fun g => by
    have s1 := s g
    have s2 := s (ng3 X && g)
    have c1 := cn (ng3 X) g
    unfold su3
    repeat' split
    all_goals omega
  have wo : wo3 (k - 2) X < 18446744073709551616 := by
    unfold wo3
    split
    · omega
    · split
      · exact hX
      · exact f _ _ _ _
  have ro : ro3 X < 18446744073709551616 := by
    unfold ro3
    split
    · exact hX
    · split
      · omega
      · split
        · exact hX
        · exact f _ _ _ _
  have m : ml3 X Y < 18446744073709551616 := by
    have s1 := s (ng3 X ^^ ng3 Y)
    unfold ml3
    split
    · omega
    · split
      · omega
      · split
        · omega
        · exact f _ _ _ _
  have d : dv3 X Y < 18446744073709551616 := by
    have s1 := s (ng3 X ^^ ng3 Y)
    unfold dv3
    split
    · omega
    · split
      · omega
      · split
        · omega
        · exact f _ _ _ _
  have i : ∀ l, mi3 l X Y < 18446744073709551616 := fun l => by
    unfold mi3
    repeat' split
    all_goals omega
  have s1 := s (ng3 Y)
  have p : fp3 X < 18446744073709551616 := by unfold fp3; split <;> omega
  have i1 := i true
  have i2 := i false
  have u1 := su (ng3 Y)
  have u2 := su (ng3 Y ^^ true)
  unfold fo3
  repeat' split
  all_goals first | assumption | omega
theorem mv2_lt (X : Nat) : mv2 X < 4294967296 := by
  have s1 := sw2_le (ng3 X)
  have f := f2_lt (ng3 X) (wh3 X) (pw3 X) false
  unfold mv2
  repeat' split
  all_goals first | assumption | omega
theorem mv3_lt (X : Nat) : mv3 X < 18446744073709551616 := by
  have s1 := sw3_le (ng2 X)
  have f := f3_lt (ng2 X) (wh2 X) (pw2 X) false
  unfold mv3
  repeat' split
  all_goals first | assumption | omega
/-- comparisons: 1 or 0 -/
theorem NQ_W {op : Int32} {x y : Int64} (c : Prop) [Decidable c] (hr : ∀ h, mO h → ∃ h', fX16_reckons h 592 op x y = some (if c then 1 else 0, h') ∧ nG h h') (hc : ∀ (h : pm_H) (a : Nat), pm_kd h a = 8 → fX8_apply h a op x y = some (if c then 1 else 0, pm_setI h a 0 0)) : NQ op 32 x y := by
  have e : (if c then (1 : Int64) else 0) = Int64.ofNat (if c then 1 else 0) := by split <;> rfl
  rw [e] at hc
  exact NQ_0 (by split <;> decide) (fun h O => by have := hr h O; rwa [e] at this) hc
