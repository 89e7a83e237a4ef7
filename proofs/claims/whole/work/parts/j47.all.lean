/-! NUMBERS: Part III whole: class and reference reckon alike -/
/-- the type of an operator's operands, of its result; a type's bits -/
def opT (op : Nat) : Nat := (fX16_operandOf (Int32.ofNat op)).toNatClampNeg
def opR (op : Nat) : Nat := (fX16_resultOf (Int32.ofNat op)).toNatClampNeg
def bt (t : Nat) : Nat := if t % 2 = 0 then 32 else 64
def isOp (op : Nat) : Prop := (69 ≤ op ∧ op ≤ 196) ∨ (200 ≤ op ∧ op ≤ 207)
theorem NQ_g0 {op X Y : Nat} (h1 : 69 ≤ op) (h2 : op ≤ 84) (hX : X < 2 ^ bt (opT op)) (hY : Y < 2 ^ bt (opT op)) : NQ (Int32.ofNat op) (bt (opR op)) (Int64.ofNat X) (Int64.ofNat Y) := by
  have c : op = 69 ∨ op = 70 ∨ op = 71 ∨ op = 72 ∨ op = 73 ∨ op = 74 ∨ op = 75 ∨ op = 76 ∨ op = 77 ∨ op = 78 ∨ op = 79 ∨ op = 80 ∨ op = 81 ∨ op = 82 ∨ op = 83 ∨ op = 84 := by omega
  rcases c with rfl | rfl | rfl | rfl | rfl | rfl | rfl | rfl | rfl | rfl | rfl | rfl | rfl | rfl | rfl | rfl
  · exact NQ_69 _ hX
  · exact NQ_70 hX hY
  · exact NQ_71 hX hY
  · exact NQ_72 hX hY
  · exact NQ_73 hX hY
  · exact NQ_74 hX hY
  · exact NQ_75 hX hY
  · exact NQ_76 hX hY
  · exact NQ_77 hX hY
  · exact NQ_78 hX hY
  · exact NQ_79 hX hY
  · exact NQ_80 _ hX
  · exact NQ_81 hX hY
  · exact NQ_82 hX hY
  · exact NQ_83 hX hY
  · exact NQ_84 hX hY
theorem NQ_g1 {op X Y : Nat} (h1 : 85 ≤ op) (h2 : op ≤ 100) (hX : X < 2 ^ bt (opT op)) (hY : Y < 2 ^ bt (opT op)) : NQ (Int32.ofNat op) (bt (opR op)) (Int64.ofNat X) (Int64.ofNat Y) := by
  have c : op = 85 ∨ op = 86 ∨ op = 87 ∨ op = 88 ∨ op = 89 ∨ op = 90 ∨ op = 91 ∨ op = 92 ∨ op = 93 ∨ op = 94 ∨ op = 95 ∨ op = 96 ∨ op = 97 ∨ op = 98 ∨ op = 99 ∨ op = 100 := by omega
  rcases c with rfl | rfl | rfl | rfl | rfl | rfl | rfl | rfl | rfl | rfl | rfl | rfl | rfl | rfl | rfl | rfl
  · exact NQ_85 hX hY
  · exact NQ_86 hX hY
  · exact NQ_87 hX hY
  · exact NQ_88 hX hY
  · exact NQ_89 hX hY
  · exact NQ_90 hX hY
  · exact NQ_91 hX hY
  · exact NQ_92 hX hY
  · exact NQ_93 hX hY
  · exact NQ_94 hX hY
  · exact NQ_95 hX hY
  · exact NQ_96 hX hY
  · exact NQ_97 hX hY
  · exact NQ_98 hX hY
  · exact NQ_99 hX hY
  · exact NQ_100 hX hY
theorem NQ_g2 {op X Y : Nat} (h1 : 101 ≤ op) (h2 : op ≤ 116) (hX : X < 2 ^ bt (opT op)) (hY : Y < 2 ^ bt (opT op)) : NQ (Int32.ofNat op) (bt (opR op)) (Int64.ofNat X) (Int64.ofNat Y) := by
  have c : op = 101 ∨ op = 102 ∨ op = 103 ∨ op = 104 ∨ op = 105 ∨ op = 106 ∨ op = 107 ∨ op = 108 ∨ op = 109 ∨ op = 110 ∨ op = 111 ∨ op = 112 ∨ op = 113 ∨ op = 114 ∨ op = 115 ∨ op = 116 := by omega
  rcases c with rfl | rfl | rfl | rfl | rfl | rfl | rfl | rfl | rfl | rfl | rfl | rfl | rfl | rfl | rfl | rfl
  · exact NQ_101 hX hY
  · exact NQ_102 hX hY
  · exact NQ_103 hX hY
  · exact NQ_104 hX hY
  · exact NQ_105 hX hY
  · exact NQ_106 hX hY
  · exact NQ_107 hX hY
  · exact NQ_108 hX hY
  · exact NQ_109 hX hY
  · exact NQ_110 hX hY
  · exact NQ_111 hX hY
  · exact NQ_112 hX hY
  · exact NQ_113 hX hY
  · exact NQ_114 hX hY
  · exact NQ_115 hX hY
  · exact NQ_116 hX hY
theorem NQ_g3 {op X Y : Nat} (h1 : 117 ≤ op) (h2 : op ≤ 132) (hX : X < 2 ^ bt (opT op)) (hY : Y < 2 ^ bt (opT op)) : NQ (Int32.ofNat op) (bt (opR op)) (Int64.ofNat X) (Int64.ofNat Y) := by
  have c : op = 117 ∨ op = 118 ∨ op = 119 ∨ op = 120 ∨ op = 121 ∨ op = 122 ∨ op = 123 ∨ op = 124 ∨ op = 125 ∨ op = 126 ∨ op = 127 ∨ op = 128 ∨ op = 129 ∨ op = 130 ∨ op = 131 ∨ op = 132 := by omega
  rcases c with rfl | rfl | rfl | rfl | rfl | rfl | rfl | rfl | rfl | rfl | rfl | rfl | rfl | rfl | rfl | rfl
  · exact NQ_117 hX hY
  · exact NQ_118 hX hY
  · exact NQ_119 hX hY
  · exact NQ_120 hX hY
  · exact NQ_121 hX hY
  · exact NQ_122 hX hY
  · exact NQ_123 hX hY
  · exact NQ_124 hX hY
  · exact NQ_125 hX hY
  · exact NQ_126 hX hY
  · exact NQ_127 hX hY
  · exact NQ_128 hX hY
  · exact NQ_129 hX hY
  · exact NQ_130 hX hY
  · exact NQ_131 hX hY
  · exact NQ_132 hX hY
theorem NQ_g4 {op X Y : Nat} (h1 : 133 ≤ op) (h2 : op ≤ 148) (hX : X < 2 ^ bt (opT op)) (hY : Y < 2 ^ bt (opT op)) : NQ (Int32.ofNat op) (bt (opR op)) (Int64.ofNat X) (Int64.ofNat Y) := by
  have c : op = 133 ∨ op = 134 ∨ op = 135 ∨ op = 136 ∨ op = 137 ∨ op = 138 ∨ op = 139 ∨ op = 140 ∨ op = 141 ∨ op = 142 ∨ op = 143 ∨ op = 144 ∨ op = 145 ∨ op = 146 ∨ op = 147 ∨ op = 148 := by omega
  rcases c with rfl | rfl | rfl | rfl | rfl | rfl | rfl | rfl | rfl | rfl | rfl | rfl | rfl | rfl | rfl | rfl
  · exact NQ_133 hX hY
  · exact NQ_134 hX hY
  · exact NQ_135 hX hY
  · exact NQ_136 hX hY
  · exact NQ_137 hX hY
  · exact NQ_138 hX hY
  · exact NQ_139 hX hY
  · exact NQ_140 hX hY
  · exact NQ_141 hX hY
  · exact NQ_142 hX hY
  · exact NQ_143 hX hY
  · exact NQ_144 hX hY
  · exact NQ_145 hX hY
  · exact NQ_146 hX hY
  · exact NQ_147 hX hY
  · exact NQ_148 hX hY
theorem NQ_g5 {op X Y : Nat} (h1 : 149 ≤ op) (h2 : op ≤ 164) (hX : X < 2 ^ bt (opT op)) (hY : Y < 2 ^ bt (opT op)) : NQ (Int32.ofNat op) (bt (opR op)) (Int64.ofNat X) (Int64.ofNat Y) := by
  have c : op = 149 ∨ op = 150 ∨ op = 151 ∨ op = 152 ∨ op = 153 ∨ op = 154 ∨ op = 155 ∨ op = 156 ∨ op = 157 ∨ op = 158 ∨ op = 159 ∨ op = 160 ∨ op = 161 ∨ op = 162 ∨ op = 163 ∨ op = 164 := by omega
  rcases c with rfl | rfl | rfl | rfl | rfl | rfl | rfl | rfl | rfl | rfl | rfl | rfl | rfl | rfl | rfl | rfl
  · exact NQ_149 hX hY
  · exact NQ_150 hX hY
  · exact NQ_151 hX hY
  · exact NQ_152 hX hY
  · exact NQ_153 hX hY
  · exact NQ_154 hX hY
  · exact NQ_155 hX hY
  · exact NQ_156 hX hY
  · exact NQ_157 hX hY
  · exact NQ_158 hX hY
  · exact NQ_159 hX hY
  · exact NQ_160 hX hY
  · exact NQ_161 hX hY
  · exact NQ_162 hX hY
  · exact NQ_163 hX hY
  · exact NQ_164 hX hY
theorem NQ_g6 {op X Y : Nat} (h1 : 165 ≤ op) (h2 : op ≤ 180) (hX : X < 2 ^ bt (opT op)) (hY : Y < 2 ^ bt (opT op)) : NQ (Int32.ofNat op) (bt (opR op)) (Int64.ofNat X) (Int64.ofNat Y) := by
  have c : op = 165 ∨ op = 166 ∨ op = 167 ∨ op = 168 ∨ op = 169 ∨ op = 170 ∨ op = 171 ∨ op = 172 ∨ op = 173 ∨ op = 174 ∨ op = 175 ∨ op = 176 ∨ op = 177 ∨ op = 178 ∨ op = 179 ∨ op = 180 := by omega
  rcases c with rfl | rfl | rfl | rfl | rfl | rfl | rfl | rfl | rfl | rfl | rfl | rfl | rfl | rfl | rfl | rfl
  · exact NQ_165 hX hY
  · exact NQ_166 hX hY
  · exact NQ_167 _ hX
  · exact NQ_168 _ hX
  · exact NQ_169 _ hX
  · exact NQ_170 _ hX
  · exact NQ_171 _ hX
  · exact NQ_172 _ hX
  · exact NQ_173 _ hX
  · exact NQ_174 _ hX
  · exact NQ_175 _ hX
  · exact NQ_176 _ hX
  · exact NQ_177 _ hX
  · exact NQ_178 _ hX
  · exact NQ_179 _ hX
  · exact NQ_180 _ hX
theorem NQ_g7 {op X Y : Nat} (h1 : 181 ≤ op) (h2 : op ≤ 196) (hX : X < 2 ^ bt (opT op)) (hY : Y < 2 ^ bt (opT op)) : NQ (Int32.ofNat op) (bt (opR op)) (Int64.ofNat X) (Int64.ofNat Y) := by
  have c : op = 181 ∨ op = 182 ∨ op = 183 ∨ op = 184 ∨ op = 185 ∨ op = 186 ∨ op = 187 ∨ op = 188 ∨ op = 189 ∨ op = 190 ∨ op = 191 ∨ op = 192 ∨ op = 193 ∨ op = 194 ∨ op = 195 ∨ op = 196 := by omega
  rcases c with rfl | rfl | rfl | rfl | rfl | rfl | rfl | rfl | rfl | rfl | rfl | rfl | rfl | rfl | rfl | rfl
  · exact NQ_181 _ hX
  · exact NQ_182 _ hX
  · exact NQ_183 _ hX
  · exact NQ_184 _ hX
  · exact NQ_185 _ hX
  · exact NQ_186 _ hX
  · exact NQ_187 _ hX
  · exact NQ_188 _ hX
  · exact NQ_189 _ hX
  · exact NQ_190 _ hX
  · exact NQ_191 _ hX
  · exact NQ_192 _ hX
  · exact NQ_193 _ hX
  · exact NQ_194 _ hX
  · exact NQ_195 _ hX
  · exact NQ_196 _ hX
theorem NQ_g8 {op X Y : Nat} (h1 : 200 ≤ op) (h2 : op ≤ 207) (hX : X < 2 ^ bt (opT op)) (hY : Y < 2 ^ bt (opT op)) : NQ (Int32.ofNat op) (bt (opR op)) (Int64.ofNat X) (Int64.ofNat Y) := by
  have c : op = 200 ∨ op = 201 ∨ op = 202 ∨ op = 203 ∨ op = 204 ∨ op = 205 ∨ op = 206 ∨ op = 207 := by omega
  rcases c with rfl | rfl | rfl | rfl | rfl | rfl | rfl | rfl
  · exact NQ_200 _ hX
  · exact NQ_201 _ hX
  · exact NQ_202 _ hX
  · exact NQ_203 _ hX
  · exact NQ_204 _ hX
  · exact NQ_205 _ hX
  · exact NQ_206 _ hX
  · exact NQ_207 _ hX
theorem NQ_all {op X Y : Nat} (h : isOp op) (hX : X < 2 ^ bt (opT op)) (hY : Y < 2 ^ bt (opT op)) : NQ (Int32.ofNat op) (bt (opR op)) (Int64.ofNat X) (Int64.ofNat Y) := by
  have h' := h
  unfold isOp at h'
  by_cases c0 : op ≤ 84
  · exact NQ_g0 (by omega) c0 hX hY
  by_cases c1 : op ≤ 100
  · exact NQ_g1 (by omega) c1 hX hY
  by_cases c2 : op ≤ 116
  · exact NQ_g2 (by omega) c2 hX hY
  by_cases c3 : op ≤ 132
  · exact NQ_g3 (by omega) c3 hX hY
  by_cases c4 : op ≤ 148
  · exact NQ_g4 (by omega) c4 hX hY
  by_cases c5 : op ≤ 164
  · exact NQ_g5 (by omega) c5 hX hY
  by_cases c6 : op ≤ 180
  · exact NQ_g6 (by omega) c6 hX hY
  by_cases c7 : op ≤ 196
  · exact NQ_g7 (by omega) c7 hX hY
  exact NQ_g8 (by omega) (by omega) hX hY
