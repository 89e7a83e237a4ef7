/-! NUMBERS: machine numbers as plain ones. Int32.ofInt for what may be below 0, Int64.ofNat for bits -/
theorem zz_ad (a b : Int) : Int32.ofInt a + Int32.ofInt b = Int32.ofInt (a + b) := (Int32.ofInt_add ..).symm
theorem zz_sb (a b : Int) : Int32.ofInt a - Int32.ofInt b = Int32.ofInt (a - b) := (Int32.ofInt_sub ..).symm
theorem zz_ng (a : Int) : -Int32.ofInt a = Int32.ofInt (-a) := Int32.neg_ofInt
theorem zz_ml (a b : Int) : Int32.ofInt a * Int32.ofInt b = Int32.ofInt (a * b) := (Int32.ofInt_mul ..).symm
theorem zz_ti {a : Int} (h1 : -2147483648 ≤ a) (h2 : a < 2147483648) : (Int32.ofInt a).toInt = a := Int32.toInt_ofInt_of_le h1 h2
theorem zz_le {a b : Int} (h1 : -2147483648 ≤ a) (h2 : a < 2147483648) (h3 : -2147483648 ≤ b) (h4 : b < 2147483648) : (Int32.ofInt a ≤ Int32.ofInt b) = (a ≤ b) := by rw [Int32.le_iff_toInt_le, zz_ti h1 h2, zz_ti h3 h4]
theorem zz_lt {a b : Int} (h1 : -2147483648 ≤ a) (h2 : a < 2147483648) (h3 : -2147483648 ≤ b) (h4 : b < 2147483648) : (Int32.ofInt a < Int32.ofInt b) = (a < b) := by rw [Int32.lt_iff_toInt_lt, zz_ti h1 h2, zz_ti h3 h4]
theorem zz_eq {a b : Int} (h1 : -2147483648 ≤ a) (h2 : a < 2147483648) (h3 : -2147483648 ≤ b) (h4 : b < 2147483648) : (Int32.ofInt a = Int32.ofInt b) = (a = b) := propext ⟨fun e => by have := congrArg Int32.toInt e; rwa [zz_ti h1 h2, zz_ti h3 h4] at this, fun e => by rw [e]⟩
theorem zz_t6 {a : Int} (h1 : -2147483648 ≤ a) (h2 : a < 2147483648) : (Int32.ofInt a).toInt64 = Int64.ofInt a := by
  apply Int64.toInt.inj
  rw [Int32.toInt_toInt64, zz_ti h1 h2, Int64.toInt_ofInt_of_le (by omega) (by omega)]
theorem zz_n (n : Nat) : Int32.ofNat n = Int32.ofInt n := Int32.ofInt_eq_ofNat.symm
theorem jl_n (n : Nat) : Int64.ofInt (n : Int) = Int64.ofNat n := Int64.ofInt_eq_ofNat
theorem zz_mk {a : Int} (h1 : 0 ≤ a) (h2 : a < 64) : (Int32.ofInt a).toInt64 &&& 63 = Int64.ofNat a.toNat := by
  obtain ⟨k, rfl⟩ : ∃ k : Nat, a = k := ⟨a.toNat, by omega⟩
  rw [zz_t6 (by omega) (by omega), Int64.ofInt_eq_ofNat]
  show Int64.ofNat k &&& Int64.ofNat 63 = Int64.ofNat k
  rw [ll_m63, Nat.mod_eq_of_lt (by omega)]
theorem ll_sl (x : Nat) {k : Nat} (hk : k < 64) : Int64.ofNat x <<< Int64.ofNat k = Int64.ofNat (x * 2 ^ k) := by
  apply Int64.toBitVec_inj.mp
  rw [Int64.toBitVec_shiftLeft, ll_sm ⟨k, hk⟩]
  show BitVec.ofNat 64 x <<< BitVec.ofNat 64 k = BitVec.ofNat 64 (x * 2 ^ k)
  apply BitVec.eq_of_toNat_eq
  rw [BitVec.shiftLeft_eq', BitVec.toNat_shiftLeft, BitVec.toNat_ofNat, BitVec.toNat_ofNat, BitVec.toNat_ofNat, Nat.mod_eq_of_lt (show k < 2 ^ 64 by omega), Nat.shiftLeft_eq, Nat.mod_mul_mod]
theorem ll_sr {x k : Nat} (hx : x < 9223372036854775808) (hk : k < 64) : Int64.ofNat x >>> Int64.ofNat k = Int64.ofNat (x / 2 ^ k) := by
  apply Int64.toBitVec_inj.mp
  rw [Int64.toBitVec_shiftRight, ll_sm ⟨k, hk⟩, BitVec.sshiftRight_eq']
  have hx' : (Int64.ofNat x).toBitVec.toNat = x := by
    show (BitVec.ofNat 64 x).toNat = x
    rw [BitVec.toNat_ofNat]
    exact Nat.mod_eq_of_lt (by omega)
  have hk' : (BitVec.ofNat 64 k).toNat = k := by
    rw [BitVec.toNat_ofNat]
    exact Nat.mod_eq_of_lt (by omega)
  rw [BitVec.sshiftRight_eq_of_msb_false (BitVec.msb_eq_false_iff_two_mul_lt.mpr (by rw [hx']; omega)), hk']
  apply BitVec.eq_of_toNat_eq
  rw [BitVec.toNat_ushiftRight, hx', Nat.shiftRight_eq_div_pow]
  show _ = (BitVec.ofNat 64 (x / 2 ^ k)).toNat
  rw [BitVec.toNat_ofNat]
  exact (Nat.mod_eq_of_lt (Nat.lt_of_le_of_lt (Nat.div_le_self _ _) (by omega))).symm
theorem jl_us {x k : Nat} (hx : x < 18446744073709551616) (hk : k < 64) : ((Int64.ofNat x).toUInt64 >>> (Int64.ofNat k).toUInt64).toInt64 = Int64.ofNat (x / 2 ^ k) := by
  apply Int64.toBitVec_inj.mp
  apply BitVec.eq_of_toNat_eq
  show ((BitVec.ofNat 64 x) >>> (BitVec.ofNat 64 k % 64#64)).toNat = (BitVec.ofNat 64 (x / 2 ^ k)).toNat
  have e : BitVec.ofNat 64 k % 64#64 = BitVec.ofNat 64 k := by
    apply BitVec.eq_of_toNat_eq
    rw [BitVec.toNat_umod, BitVec.toNat_ofNat, BitVec.toNat_ofNat, Nat.mod_eq_of_lt (show k < 2 ^ 64 by omega)]
    exact Nat.mod_eq_of_lt hk
  rw [e, BitVec.ushiftRight_eq', BitVec.toNat_ushiftRight, BitVec.toNat_ofNat, BitVec.toNat_ofNat, BitVec.toNat_ofNat, Nat.mod_eq_of_lt (show k < 2 ^ 64 by omega), Nat.mod_eq_of_lt (show x < 2 ^ 64 by omega), Nat.shiftRight_eq_div_pow, Nat.mod_eq_of_lt (Nat.lt_of_le_of_lt (Nat.div_le_self _ _) (by omega))]
theorem zz_us {x : Nat} {a : Int} (hx : x < 18446744073709551616) (h1 : 0 ≤ a) (h2 : a < 64) : ((Int64.ofNat x).toUInt64 >>> ((Int32.ofInt a).toInt64.toUInt64 &&& Int64.toUInt64 63)).toInt64 = Int64.ofNat (x / 2 ^ a.toNat) := by
  rw [← Int64.toUInt64_and, zz_mk h1 h2]
  exact jl_us hx (by omega)
theorem jl_o {a k c : Nat} (ha : a < 2 ^ k) (h : c * 2 ^ k + a < 18446744073709551616) : Int64.ofNat (c * 2 ^ k) ||| Int64.ofNat a = Int64.ofNat (c * 2 ^ k + a) := by
  apply Int64.toBitVec_inj.mp
  rw [Int64.toBitVec_or]
  show BitVec.ofNat 64 (c * 2 ^ k) ||| BitVec.ofNat 64 a = BitVec.ofNat 64 (c * 2 ^ k + a)
  apply BitVec.eq_of_toNat_eq
  rw [BitVec.toNat_or, BitVec.toNat_ofNat, BitVec.toNat_ofNat, BitVec.toNat_ofNat, Nat.mod_eq_of_lt (show c * 2 ^ k < 2 ^ 64 by omega), Nat.mod_eq_of_lt (show a < 2 ^ 64 by omega), Nat.mod_eq_of_lt (show c * 2 ^ k + a < 2 ^ 64 by omega), ← Nat.shiftLeft_eq, ← Nat.shiftLeft_add_eq_or_of_lt ha]
theorem jl_oc (a b : Int64) : a ||| b = b ||| a := Int64.or_comm ..
theorem jl_o1 {a : Nat} (h : a < 18446744073709551616) (h2 : a % 2 = 0) : Int64.ofNat a ||| Int64.ofNat 1 = Int64.ofNat (a + 1) := by
  have := jl_o (a := 1) (k := 1) (c := a / 2) (by decide) (by omega)
  rwa [show a / 2 * 2 ^ 1 = a by omega] at this
theorem jl_o2 {a : Nat} (h : a < 18446744073709551616) (h2 : a % 2 = 1) : Int64.ofNat a ||| Int64.ofNat 1 = Int64.ofNat a := by
  have w := jl_o (a := 1) (k := 1) (c := a / 2) (by decide) (by omega)
  rw [show a / 2 * 2 ^ 1 + 1 = a by omega] at w
  rw [← w, Int64.or_assoc, Int64.or_self]
/-- numbers of 64 bits: equal, 0, below 0 -/
theorem jl_tn {x : Nat} (hx : x < 18446744073709551616) : (Int64.ofNat x).toBitVec.toNat = x := by
  show (BitVec.ofNat 64 x).toNat = x
  rw [BitVec.toNat_ofNat]
  exact Nat.mod_eq_of_lt (by omega)
theorem jl_eq {m n : Nat} (hm : m < 18446744073709551616) (hn : n < 18446744073709551616) : (Int64.ofNat m = Int64.ofNat n) = (m = n) := propext ⟨fun e => by
  have := congrArg (fun x => x.toBitVec.toNat) e
  rwa [jl_tn hm, jl_tn hn] at this, fun e => by rw [e]⟩
theorem jl_all (x : Int64) : ∃ n : Nat, n < 18446744073709551616 ∧ x = Int64.ofNat n := by
  refine ⟨x.toBitVec.toNat, x.toBitVec.isLt, ?_⟩
  apply Int64.toBitVec_inj.mp
  show x.toBitVec = BitVec.ofNat 64 x.toBitVec.toNat
  rw [BitVec.ofNat_toNat, BitVec.setWidth_eq]
theorem jl_neg {x : Nat} (h1 : 9223372036854775808 ≤ x) (h2 : x < 18446744073709551616) : Int64.ofNat x < 0 := by
  rw [Int64.lt_iff_toInt_lt, Int64.toInt_zero, ← Int64.toInt_toBitVec, BitVec.toInt_eq_toNat_cond, jl_tn h2, if_neg (by omega)]
  omega
theorem jl_pos {x : Nat} (h1 : x < 9223372036854775808) : 0 ≤ Int64.ofNat x := by
  have := (ll_le (m := 0) (n := x) (by decide) h1).mpr (Nat.zero_le _)
  exact this
theorem jl_wrap (x : Nat) : Int64.ofNat x = Int64.ofNat (x % 18446744073709551616) := by
  apply Int64.toBitVec_inj.mp
  apply BitVec.eq_of_toNat_eq
  show (BitVec.ofNat 64 x).toNat = (BitVec.ofNat 64 _).toNat
  rw [BitVec.toNat_ofNat, BitVec.toNat_ofNat, Nat.mod_mod]
theorem jl_ng {x : Nat} (h : x ≤ 18446744073709551616) : -Int64.ofNat x = Int64.ofNat (18446744073709551616 - x) := by
  have e : Int64.ofNat x + Int64.ofNat (18446744073709551616 - x) = 0 := by
    rw [ll_ad, show x + (18446744073709551616 - x) = 18446744073709551616 by omega, jl_wrap]
    rfl
  have := congrArg (fun z => -Int64.ofNat x + z) e
  simp only [← Int64.add_assoc, Int64.add_left_neg, Int64.zero_add, Int64.add_zero] at this
  exact this.symm
/-! numerals -/
theorem m3_0 : (0 : Int32) = Int32.ofInt 0 := rfl
theorem m3_1 : (1 : Int32) = Int32.ofInt 1 := rfl
theorem m3_2 : (2 : Int32) = Int32.ofInt 2 := rfl
theorem m3_3 : (3 : Int32) = Int32.ofInt 3 := rfl
theorem m3_4 : (4 : Int32) = Int32.ofInt 4 := rfl
theorem m3_5 : (5 : Int32) = Int32.ofInt 5 := rfl
theorem m3_6 : (6 : Int32) = Int32.ofInt 6 := rfl
theorem m3_7 : (7 : Int32) = Int32.ofInt 7 := rfl
theorem m3_8 : (8 : Int32) = Int32.ofInt 8 := rfl
theorem m3_9 : (9 : Int32) = Int32.ofInt 9 := rfl
theorem m3_10 : (10 : Int32) = Int32.ofInt 10 := rfl
theorem m3_11 : (11 : Int32) = Int32.ofInt 11 := rfl
theorem m3_12 : (12 : Int32) = Int32.ofInt 12 := rfl
theorem m3_13 : (13 : Int32) = Int32.ofInt 13 := rfl
theorem m3_14 : (14 : Int32) = Int32.ofInt 14 := rfl
theorem m3_15 : (15 : Int32) = Int32.ofInt 15 := rfl
theorem m3_16 : (16 : Int32) = Int32.ofInt 16 := rfl
theorem m3_17 : (17 : Int32) = Int32.ofInt 17 := rfl
theorem m3_18 : (18 : Int32) = Int32.ofInt 18 := rfl
theorem m3_19 : (19 : Int32) = Int32.ofInt 19 := rfl
theorem m3_20 : (20 : Int32) = Int32.ofInt 20 := rfl
theorem m3_21 : (21 : Int32) = Int32.ofInt 21 := rfl
theorem m3_22 : (22 : Int32) = Int32.ofInt 22 := rfl
theorem m3_23 : (23 : Int32) = Int32.ofInt 23 := rfl
theorem m3_24 : (24 : Int32) = Int32.ofInt 24 := rfl
theorem m3_25 : (25 : Int32) = Int32.ofInt 25 := rfl
theorem m3_26 : (26 : Int32) = Int32.ofInt 26 := rfl
theorem m3_27 : (27 : Int32) = Int32.ofInt 27 := rfl
theorem m3_28 : (28 : Int32) = Int32.ofInt 28 := rfl
theorem m3_29 : (29 : Int32) = Int32.ofInt 29 := rfl
theorem m3_30 : (30 : Int32) = Int32.ofInt 30 := rfl
theorem m3_31 : (31 : Int32) = Int32.ofInt 31 := rfl
theorem m3_32 : (32 : Int32) = Int32.ofInt 32 := rfl
theorem m3_33 : (33 : Int32) = Int32.ofInt 33 := rfl
theorem m3_34 : (34 : Int32) = Int32.ofInt 34 := rfl
theorem m3_35 : (35 : Int32) = Int32.ofInt 35 := rfl
theorem m3_36 : (36 : Int32) = Int32.ofInt 36 := rfl
theorem m3_37 : (37 : Int32) = Int32.ofInt 37 := rfl
theorem m3_38 : (38 : Int32) = Int32.ofInt 38 := rfl
theorem m3_39 : (39 : Int32) = Int32.ofInt 39 := rfl
theorem m3_40 : (40 : Int32) = Int32.ofInt 40 := rfl
theorem m3_41 : (41 : Int32) = Int32.ofInt 41 := rfl
theorem m3_42 : (42 : Int32) = Int32.ofInt 42 := rfl
theorem m3_43 : (43 : Int32) = Int32.ofInt 43 := rfl
theorem m3_44 : (44 : Int32) = Int32.ofInt 44 := rfl
theorem m3_45 : (45 : Int32) = Int32.ofInt 45 := rfl
theorem m3_46 : (46 : Int32) = Int32.ofInt 46 := rfl
theorem m3_47 : (47 : Int32) = Int32.ofInt 47 := rfl
theorem m3_48 : (48 : Int32) = Int32.ofInt 48 := rfl
theorem m3_49 : (49 : Int32) = Int32.ofInt 49 := rfl
theorem m3_50 : (50 : Int32) = Int32.ofInt 50 := rfl
theorem m3_51 : (51 : Int32) = Int32.ofInt 51 := rfl
theorem m3_52 : (52 : Int32) = Int32.ofInt 52 := rfl
theorem m3_53 : (53 : Int32) = Int32.ofInt 53 := rfl
theorem m3_54 : (54 : Int32) = Int32.ofInt 54 := rfl
theorem m3_55 : (55 : Int32) = Int32.ofInt 55 := rfl
theorem m3_56 : (56 : Int32) = Int32.ofInt 56 := rfl
theorem m3_57 : (57 : Int32) = Int32.ofInt 57 := rfl
theorem m3_58 : (58 : Int32) = Int32.ofInt 58 := rfl
theorem m3_59 : (59 : Int32) = Int32.ofInt 59 := rfl
theorem m3_60 : (60 : Int32) = Int32.ofInt 60 := rfl
theorem m3_61 : (61 : Int32) = Int32.ofInt 61 := rfl
theorem m3_62 : (62 : Int32) = Int32.ofInt 62 := rfl
theorem m3_63 : (63 : Int32) = Int32.ofInt 63 := rfl
theorem m3_64 : (64 : Int32) = Int32.ofInt 64 := rfl
theorem m3_65 : (65 : Int32) = Int32.ofInt 65 := rfl
theorem m3_66 : (66 : Int32) = Int32.ofInt 66 := rfl
theorem m3_67 : (67 : Int32) = Int32.ofInt 67 := rfl
theorem m3_68 : (68 : Int32) = Int32.ofInt 68 := rfl
theorem m3_69 : (69 : Int32) = Int32.ofInt 69 := rfl
theorem m3_70 : (70 : Int32) = Int32.ofInt 70 := rfl
theorem m3_71 : (71 : Int32) = Int32.ofInt 71 := rfl
theorem m3_72 : (72 : Int32) = Int32.ofInt 72 := rfl
theorem m3_73 : (73 : Int32) = Int32.ofInt 73 := rfl
theorem m3_74 : (74 : Int32) = Int32.ofInt 74 := rfl
theorem m3_75 : (75 : Int32) = Int32.ofInt 75 := rfl
theorem m3_76 : (76 : Int32) = Int32.ofInt 76 := rfl
theorem m3_77 : (77 : Int32) = Int32.ofInt 77 := rfl
theorem m3_78 : (78 : Int32) = Int32.ofInt 78 := rfl
theorem m3_79 : (79 : Int32) = Int32.ofInt 79 := rfl
theorem m3_80 : (80 : Int32) = Int32.ofInt 80 := rfl
theorem m3_81 : (81 : Int32) = Int32.ofInt 81 := rfl
theorem m3_82 : (82 : Int32) = Int32.ofInt 82 := rfl
theorem m3_83 : (83 : Int32) = Int32.ofInt 83 := rfl
theorem m3_84 : (84 : Int32) = Int32.ofInt 84 := rfl
theorem m3_85 : (85 : Int32) = Int32.ofInt 85 := rfl
theorem m3_86 : (86 : Int32) = Int32.ofInt 86 := rfl
theorem m3_87 : (87 : Int32) = Int32.ofInt 87 := rfl
theorem m3_88 : (88 : Int32) = Int32.ofInt 88 := rfl
theorem m3_89 : (89 : Int32) = Int32.ofInt 89 := rfl
theorem m3_90 : (90 : Int32) = Int32.ofInt 90 := rfl
theorem m3_91 : (91 : Int32) = Int32.ofInt 91 := rfl
theorem m3_92 : (92 : Int32) = Int32.ofInt 92 := rfl
theorem m3_93 : (93 : Int32) = Int32.ofInt 93 := rfl
theorem m3_94 : (94 : Int32) = Int32.ofInt 94 := rfl
theorem m3_95 : (95 : Int32) = Int32.ofInt 95 := rfl
theorem m3_96 : (96 : Int32) = Int32.ofInt 96 := rfl
theorem m3_97 : (97 : Int32) = Int32.ofInt 97 := rfl
theorem m3_98 : (98 : Int32) = Int32.ofInt 98 := rfl
theorem m3_99 : (99 : Int32) = Int32.ofInt 99 := rfl
theorem m3_100 : (100 : Int32) = Int32.ofInt 100 := rfl
theorem m3_101 : (101 : Int32) = Int32.ofInt 101 := rfl
theorem m3_102 : (102 : Int32) = Int32.ofInt 102 := rfl
theorem m3_103 : (103 : Int32) = Int32.ofInt 103 := rfl
theorem m3_104 : (104 : Int32) = Int32.ofInt 104 := rfl
theorem m3_105 : (105 : Int32) = Int32.ofInt 105 := rfl
theorem m3_106 : (106 : Int32) = Int32.ofInt 106 := rfl
theorem m3_107 : (107 : Int32) = Int32.ofInt 107 := rfl
theorem m3_108 : (108 : Int32) = Int32.ofInt 108 := rfl
theorem m3_109 : (109 : Int32) = Int32.ofInt 109 := rfl
theorem m3_110 : (110 : Int32) = Int32.ofInt 110 := rfl
theorem m3_111 : (111 : Int32) = Int32.ofInt 111 := rfl
theorem m3_112 : (112 : Int32) = Int32.ofInt 112 := rfl
theorem m3_113 : (113 : Int32) = Int32.ofInt 113 := rfl
theorem m3_114 : (114 : Int32) = Int32.ofInt 114 := rfl
theorem m3_115 : (115 : Int32) = Int32.ofInt 115 := rfl
theorem m3_116 : (116 : Int32) = Int32.ofInt 116 := rfl
theorem m3_117 : (117 : Int32) = Int32.ofInt 117 := rfl
theorem m3_118 : (118 : Int32) = Int32.ofInt 118 := rfl
theorem m3_119 : (119 : Int32) = Int32.ofInt 119 := rfl
theorem m3_120 : (120 : Int32) = Int32.ofInt 120 := rfl
theorem m3_121 : (121 : Int32) = Int32.ofInt 121 := rfl
theorem m3_122 : (122 : Int32) = Int32.ofInt 122 := rfl
theorem m3_123 : (123 : Int32) = Int32.ofInt 123 := rfl
theorem m3_124 : (124 : Int32) = Int32.ofInt 124 := rfl
theorem m3_125 : (125 : Int32) = Int32.ofInt 125 := rfl
theorem m3_126 : (126 : Int32) = Int32.ofInt 126 := rfl
theorem m3_127 : (127 : Int32) = Int32.ofInt 127 := rfl
theorem m3_128 : (128 : Int32) = Int32.ofInt 128 := rfl
theorem m3_129 : (129 : Int32) = Int32.ofInt 129 := rfl
theorem m3_130 : (130 : Int32) = Int32.ofInt 130 := rfl
theorem m3_131 : (131 : Int32) = Int32.ofInt 131 := rfl
theorem m3_132 : (132 : Int32) = Int32.ofInt 132 := rfl
theorem m3_133 : (133 : Int32) = Int32.ofInt 133 := rfl
theorem m3_134 : (134 : Int32) = Int32.ofInt 134 := rfl
theorem m3_135 : (135 : Int32) = Int32.ofInt 135 := rfl
theorem m3_136 : (136 : Int32) = Int32.ofInt 136 := rfl
theorem m3_137 : (137 : Int32) = Int32.ofInt 137 := rfl
theorem m3_138 : (138 : Int32) = Int32.ofInt 138 := rfl
theorem m3_139 : (139 : Int32) = Int32.ofInt 139 := rfl
theorem m3_140 : (140 : Int32) = Int32.ofInt 140 := rfl
theorem m3_141 : (141 : Int32) = Int32.ofInt 141 := rfl
theorem m3_142 : (142 : Int32) = Int32.ofInt 142 := rfl
theorem m3_143 : (143 : Int32) = Int32.ofInt 143 := rfl
theorem m3_144 : (144 : Int32) = Int32.ofInt 144 := rfl
theorem m3_145 : (145 : Int32) = Int32.ofInt 145 := rfl
theorem m3_146 : (146 : Int32) = Int32.ofInt 146 := rfl
theorem m3_147 : (147 : Int32) = Int32.ofInt 147 := rfl
theorem m3_148 : (148 : Int32) = Int32.ofInt 148 := rfl
theorem m3_149 : (149 : Int32) = Int32.ofInt 149 := rfl
theorem m3_150 : (150 : Int32) = Int32.ofInt 150 := rfl
theorem m3_151 : (151 : Int32) = Int32.ofInt 151 := rfl
theorem m3_152 : (152 : Int32) = Int32.ofInt 152 := rfl
theorem m3_153 : (153 : Int32) = Int32.ofInt 153 := rfl
theorem m3_154 : (154 : Int32) = Int32.ofInt 154 := rfl
theorem m3_155 : (155 : Int32) = Int32.ofInt 155 := rfl
theorem m3_156 : (156 : Int32) = Int32.ofInt 156 := rfl
theorem m3_157 : (157 : Int32) = Int32.ofInt 157 := rfl
theorem m3_158 : (158 : Int32) = Int32.ofInt 158 := rfl
theorem m3_159 : (159 : Int32) = Int32.ofInt 159 := rfl
theorem m3_160 : (160 : Int32) = Int32.ofInt 160 := rfl
theorem m3_161 : (161 : Int32) = Int32.ofInt 161 := rfl
theorem m3_162 : (162 : Int32) = Int32.ofInt 162 := rfl
theorem m3_163 : (163 : Int32) = Int32.ofInt 163 := rfl
theorem m3_164 : (164 : Int32) = Int32.ofInt 164 := rfl
theorem m3_165 : (165 : Int32) = Int32.ofInt 165 := rfl
theorem m3_166 : (166 : Int32) = Int32.ofInt 166 := rfl
theorem m3_167 : (167 : Int32) = Int32.ofInt 167 := rfl
theorem m3_168 : (168 : Int32) = Int32.ofInt 168 := rfl
theorem m3_169 : (169 : Int32) = Int32.ofInt 169 := rfl
theorem m3_170 : (170 : Int32) = Int32.ofInt 170 := rfl
theorem m3_171 : (171 : Int32) = Int32.ofInt 171 := rfl
theorem m3_172 : (172 : Int32) = Int32.ofInt 172 := rfl
theorem m3_173 : (173 : Int32) = Int32.ofInt 173 := rfl
theorem m3_174 : (174 : Int32) = Int32.ofInt 174 := rfl
theorem m3_175 : (175 : Int32) = Int32.ofInt 175 := rfl
theorem m3_176 : (176 : Int32) = Int32.ofInt 176 := rfl
theorem m3_177 : (177 : Int32) = Int32.ofInt 177 := rfl
theorem m3_178 : (178 : Int32) = Int32.ofInt 178 := rfl
theorem m3_179 : (179 : Int32) = Int32.ofInt 179 := rfl
theorem m3_180 : (180 : Int32) = Int32.ofInt 180 := rfl
theorem m3_181 : (181 : Int32) = Int32.ofInt 181 := rfl
theorem m3_182 : (182 : Int32) = Int32.ofInt 182 := rfl
theorem m3_183 : (183 : Int32) = Int32.ofInt 183 := rfl
theorem m3_184 : (184 : Int32) = Int32.ofInt 184 := rfl
theorem m3_185 : (185 : Int32) = Int32.ofInt 185 := rfl
theorem m3_186 : (186 : Int32) = Int32.ofInt 186 := rfl
theorem m3_187 : (187 : Int32) = Int32.ofInt 187 := rfl
theorem m3_188 : (188 : Int32) = Int32.ofInt 188 := rfl
theorem m3_189 : (189 : Int32) = Int32.ofInt 189 := rfl
theorem m3_190 : (190 : Int32) = Int32.ofInt 190 := rfl
theorem m3_191 : (191 : Int32) = Int32.ofInt 191 := rfl
theorem m3_192 : (192 : Int32) = Int32.ofInt 192 := rfl
theorem m3_193 : (193 : Int32) = Int32.ofInt 193 := rfl
theorem m3_194 : (194 : Int32) = Int32.ofInt 194 := rfl
theorem m3_195 : (195 : Int32) = Int32.ofInt 195 := rfl
theorem m3_196 : (196 : Int32) = Int32.ofInt 196 := rfl
theorem m3_197 : (197 : Int32) = Int32.ofInt 197 := rfl
theorem m3_198 : (198 : Int32) = Int32.ofInt 198 := rfl
theorem m3_199 : (199 : Int32) = Int32.ofInt 199 := rfl
theorem m3_200 : (200 : Int32) = Int32.ofInt 200 := rfl
theorem m3_201 : (201 : Int32) = Int32.ofInt 201 := rfl
theorem m3_202 : (202 : Int32) = Int32.ofInt 202 := rfl
theorem m3_203 : (203 : Int32) = Int32.ofInt 203 := rfl
theorem m3_204 : (204 : Int32) = Int32.ofInt 204 := rfl
theorem m3_205 : (205 : Int32) = Int32.ofInt 205 := rfl
theorem m3_206 : (206 : Int32) = Int32.ofInt 206 := rfl
theorem m3_207 : (207 : Int32) = Int32.ofInt 207 := rfl
theorem m3_208 : (208 : Int32) = Int32.ofInt 208 := rfl
theorem m3_209 : (209 : Int32) = Int32.ofInt 209 := rfl
theorem m3_210 : (210 : Int32) = Int32.ofInt 210 := rfl
theorem m3_211 : (211 : Int32) = Int32.ofInt 211 := rfl
theorem m3_212 : (212 : Int32) = Int32.ofInt 212 := rfl
theorem m3_213 : (213 : Int32) = Int32.ofInt 213 := rfl
theorem m3_214 : (214 : Int32) = Int32.ofInt 214 := rfl
theorem m3_215 : (215 : Int32) = Int32.ofInt 215 := rfl
theorem m3_216 : (216 : Int32) = Int32.ofInt 216 := rfl
theorem m3_217 : (217 : Int32) = Int32.ofInt 217 := rfl
theorem m3_218 : (218 : Int32) = Int32.ofInt 218 := rfl
theorem m3_219 : (219 : Int32) = Int32.ofInt 219 := rfl
theorem m3_220 : (220 : Int32) = Int32.ofInt 220 := rfl
theorem m3_221 : (221 : Int32) = Int32.ofInt 221 := rfl
theorem m3_222 : (222 : Int32) = Int32.ofInt 222 := rfl
theorem m3_223 : (223 : Int32) = Int32.ofInt 223 := rfl
theorem m3_224 : (224 : Int32) = Int32.ofInt 224 := rfl
theorem m3_225 : (225 : Int32) = Int32.ofInt 225 := rfl
theorem m3_226 : (226 : Int32) = Int32.ofInt 226 := rfl
theorem m3_227 : (227 : Int32) = Int32.ofInt 227 := rfl
theorem m3_228 : (228 : Int32) = Int32.ofInt 228 := rfl
theorem m3_229 : (229 : Int32) = Int32.ofInt 229 := rfl
theorem m3_230 : (230 : Int32) = Int32.ofInt 230 := rfl
theorem m3_231 : (231 : Int32) = Int32.ofInt 231 := rfl
theorem m3_232 : (232 : Int32) = Int32.ofInt 232 := rfl
theorem m3_233 : (233 : Int32) = Int32.ofInt 233 := rfl
theorem m3_234 : (234 : Int32) = Int32.ofInt 234 := rfl
theorem m3_235 : (235 : Int32) = Int32.ofInt 235 := rfl
theorem m3_236 : (236 : Int32) = Int32.ofInt 236 := rfl
theorem m3_237 : (237 : Int32) = Int32.ofInt 237 := rfl
theorem m3_238 : (238 : Int32) = Int32.ofInt 238 := rfl
theorem m3_239 : (239 : Int32) = Int32.ofInt 239 := rfl
theorem m3_240 : (240 : Int32) = Int32.ofInt 240 := rfl
theorem m3_241 : (241 : Int32) = Int32.ofInt 241 := rfl
theorem m3_242 : (242 : Int32) = Int32.ofInt 242 := rfl
theorem m3_243 : (243 : Int32) = Int32.ofInt 243 := rfl
theorem m3_244 : (244 : Int32) = Int32.ofInt 244 := rfl
theorem m3_245 : (245 : Int32) = Int32.ofInt 245 := rfl
theorem m3_246 : (246 : Int32) = Int32.ofInt 246 := rfl
theorem m3_247 : (247 : Int32) = Int32.ofInt 247 := rfl
theorem m3_248 : (248 : Int32) = Int32.ofInt 248 := rfl
theorem m3_249 : (249 : Int32) = Int32.ofInt 249 := rfl
theorem m3_250 : (250 : Int32) = Int32.ofInt 250 := rfl
theorem m3_251 : (251 : Int32) = Int32.ofInt 251 := rfl
theorem m3_252 : (252 : Int32) = Int32.ofInt 252 := rfl
theorem m3_253 : (253 : Int32) = Int32.ofInt 253 := rfl
theorem m3_254 : (254 : Int32) = Int32.ofInt 254 := rfl
theorem m3_255 : (255 : Int32) = Int32.ofInt 255 := rfl
theorem m3_256 : (256 : Int32) = Int32.ofInt 256 := rfl
theorem m3_257 : (257 : Int32) = Int32.ofInt 257 := rfl
theorem m3_258 : (258 : Int32) = Int32.ofInt 258 := rfl
theorem m3_259 : (259 : Int32) = Int32.ofInt 259 := rfl
theorem m3_260 : (260 : Int32) = Int32.ofInt 260 := rfl
theorem m3_261 : (261 : Int32) = Int32.ofInt 261 := rfl
theorem m3_262 : (262 : Int32) = Int32.ofInt 262 := rfl
theorem m3_263 : (263 : Int32) = Int32.ofInt 263 := rfl
theorem m3_264 : (264 : Int32) = Int32.ofInt 264 := rfl
theorem m3_265 : (265 : Int32) = Int32.ofInt 265 := rfl
theorem m3_266 : (266 : Int32) = Int32.ofInt 266 := rfl
theorem m3_267 : (267 : Int32) = Int32.ofInt 267 := rfl
theorem m3_268 : (268 : Int32) = Int32.ofInt 268 := rfl
theorem m3_269 : (269 : Int32) = Int32.ofInt 269 := rfl
theorem m3_270 : (270 : Int32) = Int32.ofInt 270 := rfl
theorem m3_271 : (271 : Int32) = Int32.ofInt 271 := rfl
theorem m3_272 : (272 : Int32) = Int32.ofInt 272 := rfl
theorem m3_273 : (273 : Int32) = Int32.ofInt 273 := rfl
theorem m3_274 : (274 : Int32) = Int32.ofInt 274 := rfl
theorem m3_275 : (275 : Int32) = Int32.ofInt 275 := rfl
theorem m3_276 : (276 : Int32) = Int32.ofInt 276 := rfl
theorem m3_277 : (277 : Int32) = Int32.ofInt 277 := rfl
theorem m3_278 : (278 : Int32) = Int32.ofInt 278 := rfl
theorem m3_279 : (279 : Int32) = Int32.ofInt 279 := rfl
theorem m3_280 : (280 : Int32) = Int32.ofInt 280 := rfl
theorem m3_281 : (281 : Int32) = Int32.ofInt 281 := rfl
theorem m3_282 : (282 : Int32) = Int32.ofInt 282 := rfl
theorem m3_283 : (283 : Int32) = Int32.ofInt 283 := rfl
theorem m3_284 : (284 : Int32) = Int32.ofInt 284 := rfl
theorem m3_285 : (285 : Int32) = Int32.ofInt 285 := rfl
theorem m3_286 : (286 : Int32) = Int32.ofInt 286 := rfl
theorem m3_287 : (287 : Int32) = Int32.ofInt 287 := rfl
theorem m3_288 : (288 : Int32) = Int32.ofInt 288 := rfl
theorem m3_289 : (289 : Int32) = Int32.ofInt 289 := rfl
theorem m3_290 : (290 : Int32) = Int32.ofInt 290 := rfl
theorem m3_291 : (291 : Int32) = Int32.ofInt 291 := rfl
theorem m3_292 : (292 : Int32) = Int32.ofInt 292 := rfl
theorem m3_293 : (293 : Int32) = Int32.ofInt 293 := rfl
theorem m3_294 : (294 : Int32) = Int32.ofInt 294 := rfl
theorem m3_295 : (295 : Int32) = Int32.ofInt 295 := rfl
theorem m3_296 : (296 : Int32) = Int32.ofInt 296 := rfl
theorem m3_297 : (297 : Int32) = Int32.ofInt 297 := rfl
theorem m3_298 : (298 : Int32) = Int32.ofInt 298 := rfl
theorem m3_299 : (299 : Int32) = Int32.ofInt 299 := rfl
theorem m3_300 : (300 : Int32) = Int32.ofInt 300 := rfl
theorem m3_500 : (500 : Int32) = Int32.ofInt 500 := rfl
theorem m3_512 : (512 : Int32) = Int32.ofInt 512 := rfl
theorem m3_1000 : (1000 : Int32) = Int32.ofInt 1000 := rfl
theorem m3_1023 : (1023 : Int32) = Int32.ofInt 1023 := rfl
theorem m3_1024 : (1024 : Int32) = Int32.ofInt 1024 := rfl
theorem m3_1074 : (1074 : Int32) = Int32.ofInt 1074 := rfl
theorem m3_1075 : (1075 : Int32) = Int32.ofInt 1075 := rfl
theorem m3_2047 : (2047 : Int32) = Int32.ofInt 2047 := rfl
theorem m3_2048 : (2048 : Int32) = Int32.ofInt 2048 := rfl
theorem m3_4096 : (4096 : Int32) = Int32.ofInt 4096 := rfl
theorem m3_65535 : (65535 : Int32) = Int32.ofInt 65535 := rfl
theorem m3_65536 : (65536 : Int32) = Int32.ofInt 65536 := rfl
theorem m3_100000 : (100000 : Int32) = Int32.ofInt 100000 := rfl
theorem m3_1000000 : (1000000 : Int32) = Int32.ofInt 1000000 := rfl
theorem n6_2139095040 : (2139095040 : Int64) = Int64.ofNat 2139095040 := rfl
theorem n6_9218868437227405312 : (9218868437227405312 : Int64) = Int64.ofNat 9218868437227405312 := rfl
theorem n6_2143289344 : (2143289344 : Int64) = Int64.ofNat 2143289344 := rfl
theorem n6_9221120237041090560 : (9221120237041090560 : Int64) = Int64.ofNat 9221120237041090560 := rfl
theorem n6_2147483648 : (2147483648 : Int64) = Int64.ofNat 2147483648 := rfl
theorem n6_9223372036854775807 : (9223372036854775807 : Int64) = Int64.ofNat 9223372036854775807 := rfl
theorem n6_4503599627370496 : (4503599627370496 : Int64) = Int64.ofNat 4503599627370496 := rfl
theorem n6_9007199254740992 : (9007199254740992 : Int64) = Int64.ofNat 9007199254740992 := rfl
theorem n6_8388608 : (8388608 : Int64) = Int64.ofNat 8388608 := rfl
theorem n6_16777216 : (16777216 : Int64) = Int64.ofNat 16777216 := rfl
theorem n6_134217727 : (134217727 : Int64) = Int64.ofNat 134217727 := rfl
theorem n6_134217728 : (134217728 : Int64) = Int64.ofNat 134217728 := rfl
theorem n6_4611686018427387904 : (4611686018427387904 : Int64) = Int64.ofNat 4611686018427387904 := rfl
theorem n6_9223372036854775808 : (9223372036854775808 : Int64) = Int64.ofNat 9223372036854775808 := rfl
theorem n6_21 : (21 : Int64) = Int64.ofNat 21 := rfl
theorem n6_22 : (22 : Int64) = Int64.ofNat 22 := rfl
theorem n6_23 : (23 : Int64) = Int64.ofNat 23 := rfl
theorem n6_24 : (24 : Int64) = Int64.ofNat 24 := rfl
theorem n6_25 : (25 : Int64) = Int64.ofNat 25 := rfl
theorem n6_26 : (26 : Int64) = Int64.ofNat 26 := rfl
theorem n6_27 : (27 : Int64) = Int64.ofNat 27 := rfl
theorem n6_28 : (28 : Int64) = Int64.ofNat 28 := rfl
theorem n6_29 : (29 : Int64) = Int64.ofNat 29 := rfl
theorem n6_30 : (30 : Int64) = Int64.ofNat 30 := rfl
theorem n6_31 : (31 : Int64) = Int64.ofNat 31 := rfl
theorem n6_33 : (33 : Int64) = Int64.ofNat 33 := rfl
theorem n6_52 : (52 : Int64) = Int64.ofNat 52 := rfl
theorem n6_53 : (53 : Int64) = Int64.ofNat 53 := rfl
theorem n6_62 : (62 : Int64) = Int64.ofNat 62 := rfl
theorem n6_1023 : (1023 : Int64) = Int64.ofNat 1023 := rfl
theorem n6_2047 : (2047 : Int64) = Int64.ofNat 2047 := rfl
