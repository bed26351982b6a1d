/-! Small methods: their answers. -/
def gb (p : Prop) [Decidable p] : Int := if p then 1 else 0
theorem gb_t {p : Prop} [Decidable p] (h : p) : gb p = 1 := if_pos h
theorem gb_f {p : Prop} [Decidable p] (h : ¬ p) : gb p = 0 := if_neg h
theorem gb_01 (p : Prop) [Decidable p] : gb p = 0 ∨ gb p = 1 := by
  unfold gb
  split
  · exact Or.inr rfl
  · exact Or.inl rfl
theorem gb_eq0 {p : Prop} [Decidable p] : (gb p = 0) ↔ ¬ p := by
  unfold gb
  split <;> simp [*]
theorem gb_ne0 {p : Prop} [Decidable p] : (gb p ≠ 0) ↔ p := by
  unfold gb
  split <;> simp [*]
theorem glcmp_lt0 {a b : Int} : (glcmp a b < 0) ↔ a < b := by
  unfold glcmp
  split
  · simp [*]
  · split <;> simp [*]
theorem glcmp_gt0 {a b : Int} : (0 < glcmp a b) ↔ b < a := by
  unfold glcmp
  split
  · have : ¬ b < a := by omega
    simp [this]
  · split
    · have : ¬ b < a := by omega
      simp [this]
    · have : b < a := by omega
      simp [this]
theorem gK_27 : gK 27 = 0 := by decide +kernel
theorem gq_27_0 : gq 27 0 = 28 := by decide +kernel
theorem gq_27_1 : gq 27 1 = 29 := by decide +kernel
theorem gq_27_2 : gq 27 2 = 129 := by decide +kernel
theorem gq_27_3 : gq 27 3 = 230 := by decide +kernel
theorem gq_27_4 : gq 27 4 = 279 := by decide +kernel
theorem gq_27_5 : gq 27 5 = 282 := by decide +kernel
theorem gq_27_6 : gq 27 6 = 292 := by decide +kernel
theorem gK_28 : gK 28 = 5 := by decide +kernel
theorem gq_28_0 : gq 28 0 = 29 := by decide +kernel
theorem gq_28_1 : gq 28 1 = 78 := by decide +kernel
theorem gq_28_2 : gq 28 2 = 97 := by decide +kernel
theorem gq_28_3 : gq 28 3 = 99 := by decide +kernel
theorem gq_28_4 : gq 28 4 = 109 := by decide +kernel
theorem gq_28_5 : gq 28 5 = 123 := by decide +kernel
theorem gq_28_6 : gq 28 6 = 125 := by decide +kernel
theorem gK_29 : gK 29 = 1 := by decide +kernel
theorem gq_29_0 : gq 29 0 = 30 := by decide +kernel
theorem gq_29_1 : gq 29 1 = 31 := by decide +kernel
theorem gq_29_2 : gq 29 2 = 32 := by decide +kernel
theorem gq_29_3 : gq 29 3 = 33 := by decide +kernel
theorem gq_29_4 : gq 29 4 = 34 := by decide +kernel
theorem gq_29_5 : gq 29 5 = 35 := by decide +kernel
theorem gq_29_6 : gq 29 6 = 36 := by decide +kernel
theorem gq_29_7 : gq 29 7 = 37 := by decide +kernel
theorem gK_30 : gK 30 = 100 := by decide +kernel
theorem gN_30 : ((gN 30 : Nat) : Int) = 12 := by decide +kernel
theorem gK_31 : gK 31 = 100 := by decide +kernel
theorem gN_31 : ((gN 31 : Nat) : Int) = 12 := by decide +kernel
theorem gK_32 : gK 32 = 101 := by decide +kernel
theorem gN_32 : ((gN 32 : Nat) : Int) = 12 := by decide +kernel
theorem gK_33 : gK 33 = 102 := by decide +kernel
theorem gN_33 : ((gN 33 : Nat) : Int) = 40 := by decide +kernel
theorem gK_34 : gK 34 = 100 := by decide +kernel
theorem gN_34 : ((gN 34 : Nat) : Int) = 13 := by decide +kernel
theorem gK_35 : gK 35 = 100 := by decide +kernel
theorem gN_35 : ((gN 35 : Nat) : Int) = 13 := by decide +kernel
theorem gK_36 : gK 36 = 100 := by decide +kernel
theorem gN_36 : ((gN 36 : Nat) : Int) = 13 := by decide +kernel
theorem gK_37 : gK 37 = 100 := by decide +kernel
theorem gN_37 : ((gN 37 : Nat) : Int) = 13 := by decide +kernel
theorem gK_38 : gK 38 = 4 := by decide +kernel
theorem gK_39 : gK 39 = 4 := by decide +kernel
theorem gK_40 : gK 40 = 4 := by decide +kernel
theorem gK_41 : gK 41 = 4 := by decide +kernel
theorem gK_42 : gK 42 = 4 := by decide +kernel
theorem gK_43 : gK 43 = 4 := by decide +kernel
theorem gK_44 : gK 44 = 4 := by decide +kernel
theorem gK_45 : gK 45 = 4 := by decide +kernel
theorem gK_46 : gK 46 = 4 := by decide +kernel
theorem gK_47 : gK 47 = 4 := by decide +kernel
theorem gK_48 : gK 48 = 4 := by decide +kernel
theorem gK_49 : gK 49 = 4 := by decide +kernel
theorem gK_50 : gK 50 = 4 := by decide +kernel
theorem gK_51 : gK 51 = 4 := by decide +kernel
theorem gK_52 : gK 52 = 4 := by decide +kernel
theorem gK_53 : gK 53 = 4 := by decide +kernel
theorem gK_54 : gK 54 = 4 := by decide +kernel
theorem gK_55 : gK 55 = 4 := by decide +kernel
theorem gK_56 : gK 56 = 4 := by decide +kernel
theorem gK_57 : gK 57 = 4 := by decide +kernel
theorem gK_58 : gK 58 = 4 := by decide +kernel
theorem gK_59 : gK 59 = 4 := by decide +kernel
theorem gK_60 : gK 60 = 4 := by decide +kernel
theorem gK_61 : gK 61 = 4 := by decide +kernel
theorem gK_62 : gK 62 = 4 := by decide +kernel
theorem gK_63 : gK 63 = 4 := by decide +kernel
theorem gK_64 : gK 64 = 4 := by decide +kernel
theorem gK_65 : gK 65 = 4 := by decide +kernel
theorem gK_66 : gK 66 = 4 := by decide +kernel
theorem gK_67 : gK 67 = 4 := by decide +kernel
theorem gK_68 : gK 68 = 4 := by decide +kernel
theorem gK_69 : gK 69 = 4 := by decide +kernel
theorem gK_70 : gK 70 = 4 := by decide +kernel
theorem gK_71 : gK 71 = 4 := by decide +kernel
theorem gK_72 : gK 72 = 4 := by decide +kernel
theorem gK_73 : gK 73 = 4 := by decide +kernel
theorem gK_74 : gK 74 = 4 := by decide +kernel
theorem gK_75 : gK 75 = 4 := by decide +kernel
theorem gK_76 : gK 76 = 4 := by decide +kernel
theorem gK_77 : gK 77 = 4 := by decide +kernel
theorem gK_78 : gK 78 = 10 := by decide +kernel
theorem gq_78_0 : gq 78 0 = 79 := by decide +kernel
theorem gq_78_1 : gq 78 1 = 92 := by decide +kernel
theorem gq_78_2 : gq 78 2 = 93 := by decide +kernel
theorem gq_78_3 : gq 78 3 = 94 := by decide +kernel
theorem gq_78_4 : gq 78 4 = 95 := by decide +kernel
theorem gq_78_5 : gq 78 5 = 96 := by decide +kernel
theorem gK_79 : gK 79 = 103 := by decide +kernel
theorem gN_79 : ((gN 79 : Nat) : Int) = 12 := by decide +kernel
theorem gK_80 : gK 80 = 100 := by decide +kernel
theorem gN_80 : ((gN 80 : Nat) : Int) = 96 := by decide +kernel
theorem gK_81 : gK 81 = 100 := by decide +kernel
theorem gN_81 : ((gN 81 : Nat) : Int) = 96 := by decide +kernel
theorem gK_82 : gK 82 = 100 := by decide +kernel
theorem gN_82 : ((gN 82 : Nat) : Int) = 96 := by decide +kernel
theorem gK_83 : gK 83 = 100 := by decide +kernel
theorem gN_83 : ((gN 83 : Nat) : Int) = 96 := by decide +kernel
theorem gK_84 : gK 84 = 100 := by decide +kernel
theorem gN_84 : ((gN 84 : Nat) : Int) = 96 := by decide +kernel
theorem gK_85 : gK 85 = 100 := by decide +kernel
theorem gN_85 : ((gN 85 : Nat) : Int) = 96 := by decide +kernel
theorem gK_86 : gK 86 = 100 := by decide +kernel
theorem gN_86 : ((gN 86 : Nat) : Int) = 96 := by decide +kernel
theorem gK_87 : gK 87 = 100 := by decide +kernel
theorem gN_87 : ((gN 87 : Nat) : Int) = 96 := by decide +kernel
theorem gK_88 : gK 88 = 100 := by decide +kernel
theorem gN_88 : ((gN 88 : Nat) : Int) = 96 := by decide +kernel
theorem gK_89 : gK 89 = 100 := by decide +kernel
theorem gN_89 : ((gN 89 : Nat) : Int) = 96 := by decide +kernel
theorem gK_90 : gK 90 = 100 := by decide +kernel
theorem gN_90 : ((gN 90 : Nat) : Int) = 96 := by decide +kernel
theorem gK_91 : gK 91 = 100 := by decide +kernel
theorem gN_91 : ((gN 91 : Nat) : Int) = 96 := by decide +kernel
theorem gK_92 : gK 92 = 100 := by decide +kernel
theorem gN_92 : ((gN 92 : Nat) : Int) = 12 := by decide +kernel
theorem gK_93 : gK 93 = 100 := by decide +kernel
theorem gN_93 : ((gN 93 : Nat) : Int) = 12 := by decide +kernel
theorem gK_94 : gK 94 = 100 := by decide +kernel
theorem gN_94 : ((gN 94 : Nat) : Int) = 12 := by decide +kernel
theorem gK_95 : gK 95 = 100 := by decide +kernel
theorem gN_95 : ((gN 95 : Nat) : Int) = 12 := by decide +kernel
theorem gK_96 : gK 96 = 100 := by decide +kernel
theorem gN_96 : ((gN 96 : Nat) : Int) = 96 := by decide +kernel
theorem gK_97 : gK 97 = 2 := by decide +kernel
theorem gq_97_0 : gq 97 0 = 98 := by decide +kernel
theorem gK_98 : gK 98 = 100 := by decide +kernel
theorem gN_98 : ((gN 98 : Nat) : Int) = 60 := by decide +kernel
theorem gK_99 : gK 99 = 6 := by decide +kernel
theorem gq_99_0 : gq 99 0 = 100 := by decide +kernel
theorem gK_100 : gK 100 = 103 := by decide +kernel
theorem gN_100 : ((gN 100 : Nat) : Int) = 8 := by decide +kernel
theorem gK_101 : gK 101 = 100 := by decide +kernel
theorem gN_101 : ((gN 101 : Nat) : Int) = 2 := by decide +kernel
theorem gK_102 : gK 102 = 100 := by decide +kernel
theorem gN_102 : ((gN 102 : Nat) : Int) = 2 := by decide +kernel
theorem gK_103 : gK 103 = 100 := by decide +kernel
theorem gN_103 : ((gN 103 : Nat) : Int) = 2 := by decide +kernel
theorem gK_104 : gK 104 = 100 := by decide +kernel
theorem gN_104 : ((gN 104 : Nat) : Int) = 2 := by decide +kernel
theorem gK_105 : gK 105 = 100 := by decide +kernel
theorem gN_105 : ((gN 105 : Nat) : Int) = 2 := by decide +kernel
theorem gK_106 : gK 106 = 100 := by decide +kernel
theorem gN_106 : ((gN 106 : Nat) : Int) = 2 := by decide +kernel
theorem gK_107 : gK 107 = 100 := by decide +kernel
theorem gN_107 : ((gN 107 : Nat) : Int) = 2 := by decide +kernel
theorem gK_108 : gK 108 = 100 := by decide +kernel
theorem gN_108 : ((gN 108 : Nat) : Int) = 2 := by decide +kernel
theorem gK_109 : gK 109 = 11 := by decide +kernel
theorem gq_109_0 : gq 109 0 = 110 := by decide +kernel
theorem gq_109_1 : gq 109 1 = 111 := by decide +kernel
theorem gq_109_2 : gq 109 2 = 112 := by decide +kernel
theorem gq_109_3 : gq 109 3 = 113 := by decide +kernel
theorem gq_109_4 : gq 109 4 = 114 := by decide +kernel
theorem gK_110 : gK 110 = 100 := by decide +kernel
theorem gN_110 : ((gN 110 : Nat) : Int) = 30 := by decide +kernel
theorem gK_111 : gK 111 = 100 := by decide +kernel
theorem gN_111 : ((gN 111 : Nat) : Int) = 30 := by decide +kernel
theorem gK_112 : gK 112 = 100 := by decide +kernel
theorem gN_112 : ((gN 112 : Nat) : Int) = 30 := by decide +kernel
theorem gK_113 : gK 113 = 100 := by decide +kernel
theorem gN_113 : ((gN 113 : Nat) : Int) = 30 := by decide +kernel
theorem gK_114 : gK 114 = 103 := by decide +kernel
theorem gN_114 : ((gN 114 : Nat) : Int) = 8 := by decide +kernel
theorem gK_115 : gK 115 = 100 := by decide +kernel
theorem gN_115 : ((gN 115 : Nat) : Int) = 10 := by decide +kernel
theorem gK_116 : gK 116 = 100 := by decide +kernel
theorem gN_116 : ((gN 116 : Nat) : Int) = 10 := by decide +kernel
theorem gK_117 : gK 117 = 100 := by decide +kernel
theorem gN_117 : ((gN 117 : Nat) : Int) = 10 := by decide +kernel
theorem gK_118 : gK 118 = 100 := by decide +kernel
theorem gN_118 : ((gN 118 : Nat) : Int) = 10 := by decide +kernel
theorem gK_119 : gK 119 = 100 := by decide +kernel
theorem gN_119 : ((gN 119 : Nat) : Int) = 10 := by decide +kernel
theorem gK_120 : gK 120 = 100 := by decide +kernel
theorem gN_120 : ((gN 120 : Nat) : Int) = 10 := by decide +kernel
theorem gK_121 : gK 121 = 100 := by decide +kernel
theorem gN_121 : ((gN 121 : Nat) : Int) = 10 := by decide +kernel
theorem gK_122 : gK 122 = 100 := by decide +kernel
theorem gN_122 : ((gN 122 : Nat) : Int) = 10 := by decide +kernel
theorem gK_123 : gK 123 = 3 := by decide +kernel
theorem gq_123_0 : gq 123 0 = 124 := by decide +kernel
theorem gK_124 : gK 124 = 100 := by decide +kernel
theorem gN_124 : ((gN 124 : Nat) : Int) = 16 := by decide +kernel
theorem gK_125 : gK 125 = 7 := by decide +kernel
theorem gq_125_0 : gq 125 0 = 126 := by decide +kernel
theorem gq_125_2 : gq 125 2 = 127 := by decide +kernel
theorem gq_125_3 : gq 125 3 = 128 := by decide +kernel
theorem gK_126 : gK 126 = 100 := by decide +kernel
theorem gN_126 : ((gN 126 : Nat) : Int) = 8 := by decide +kernel
theorem gK_127 : gK 127 = 100 := by decide +kernel
theorem gN_127 : ((gN 127 : Nat) : Int) = 8 := by decide +kernel
theorem gK_128 : gK 128 = 100 := by decide +kernel
theorem gN_128 : ((gN 128 : Nat) : Int) = 8 := by decide +kernel
theorem gK_129 : gK 129 = 5 := by decide +kernel
theorem gq_129_0 : gq 129 0 = 130 := by decide +kernel
theorem gq_129_1 : gq 129 1 = 179 := by decide +kernel
theorem gq_129_2 : gq 129 2 = 198 := by decide +kernel
theorem gq_129_3 : gq 129 3 = 200 := by decide +kernel
theorem gq_129_4 : gq 129 4 = 210 := by decide +kernel
theorem gq_129_5 : gq 129 5 = 224 := by decide +kernel
theorem gq_129_6 : gq 129 6 = 226 := by decide +kernel
theorem gK_130 : gK 130 = 1 := by decide +kernel
theorem gq_130_0 : gq 130 0 = 131 := by decide +kernel
theorem gq_130_1 : gq 130 1 = 132 := by decide +kernel
theorem gq_130_2 : gq 130 2 = 133 := by decide +kernel
theorem gq_130_3 : gq 130 3 = 134 := by decide +kernel
theorem gq_130_4 : gq 130 4 = 135 := by decide +kernel
theorem gq_130_5 : gq 130 5 = 136 := by decide +kernel
theorem gq_130_6 : gq 130 6 = 137 := by decide +kernel
theorem gq_130_7 : gq 130 7 = 138 := by decide +kernel
theorem gK_131 : gK 131 = 100 := by decide +kernel
theorem gN_131 : ((gN 131 : Nat) : Int) = 12 := by decide +kernel
theorem gK_132 : gK 132 = 100 := by decide +kernel
theorem gN_132 : ((gN 132 : Nat) : Int) = 12 := by decide +kernel
theorem gK_133 : gK 133 = 101 := by decide +kernel
theorem gN_133 : ((gN 133 : Nat) : Int) = 12 := by decide +kernel
theorem gK_134 : gK 134 = 102 := by decide +kernel
theorem gN_134 : ((gN 134 : Nat) : Int) = 40 := by decide +kernel
theorem gK_135 : gK 135 = 100 := by decide +kernel
theorem gN_135 : ((gN 135 : Nat) : Int) = 13 := by decide +kernel
theorem gK_136 : gK 136 = 100 := by decide +kernel
theorem gN_136 : ((gN 136 : Nat) : Int) = 13 := by decide +kernel
theorem gK_137 : gK 137 = 100 := by decide +kernel
theorem gN_137 : ((gN 137 : Nat) : Int) = 13 := by decide +kernel
theorem gK_138 : gK 138 = 100 := by decide +kernel
theorem gN_138 : ((gN 138 : Nat) : Int) = 13 := by decide +kernel
theorem gK_139 : gK 139 = 4 := by decide +kernel
theorem gK_140 : gK 140 = 4 := by decide +kernel
theorem gK_141 : gK 141 = 4 := by decide +kernel
theorem gK_142 : gK 142 = 4 := by decide +kernel
theorem gK_143 : gK 143 = 4 := by decide +kernel
theorem gK_144 : gK 144 = 4 := by decide +kernel
theorem gK_145 : gK 145 = 4 := by decide +kernel
theorem gK_146 : gK 146 = 4 := by decide +kernel
theorem gK_147 : gK 147 = 4 := by decide +kernel
theorem gK_148 : gK 148 = 4 := by decide +kernel
theorem gK_149 : gK 149 = 4 := by decide +kernel
theorem gK_150 : gK 150 = 4 := by decide +kernel
theorem gK_151 : gK 151 = 4 := by decide +kernel
theorem gK_152 : gK 152 = 4 := by decide +kernel
theorem gK_153 : gK 153 = 4 := by decide +kernel
theorem gK_154 : gK 154 = 4 := by decide +kernel
theorem gK_155 : gK 155 = 4 := by decide +kernel
theorem gK_156 : gK 156 = 4 := by decide +kernel
theorem gK_157 : gK 157 = 4 := by decide +kernel
theorem gK_158 : gK 158 = 4 := by decide +kernel
theorem gK_159 : gK 159 = 4 := by decide +kernel
theorem gK_160 : gK 160 = 4 := by decide +kernel
theorem gK_161 : gK 161 = 4 := by decide +kernel
theorem gK_162 : gK 162 = 4 := by decide +kernel
theorem gK_163 : gK 163 = 4 := by decide +kernel
theorem gK_164 : gK 164 = 4 := by decide +kernel
theorem gK_165 : gK 165 = 4 := by decide +kernel
theorem gK_166 : gK 166 = 4 := by decide +kernel
theorem gK_167 : gK 167 = 4 := by decide +kernel
theorem gK_168 : gK 168 = 4 := by decide +kernel
theorem gK_169 : gK 169 = 4 := by decide +kernel
theorem gK_170 : gK 170 = 4 := by decide +kernel
theorem gK_171 : gK 171 = 4 := by decide +kernel
theorem gK_172 : gK 172 = 4 := by decide +kernel
theorem gK_173 : gK 173 = 4 := by decide +kernel
theorem gK_174 : gK 174 = 4 := by decide +kernel
theorem gK_175 : gK 175 = 4 := by decide +kernel
theorem gK_176 : gK 176 = 4 := by decide +kernel
theorem gK_177 : gK 177 = 4 := by decide +kernel
theorem gK_178 : gK 178 = 4 := by decide +kernel
theorem gK_179 : gK 179 = 10 := by decide +kernel
theorem gq_179_0 : gq 179 0 = 180 := by decide +kernel
theorem gq_179_1 : gq 179 1 = 193 := by decide +kernel
theorem gq_179_2 : gq 179 2 = 194 := by decide +kernel
theorem gq_179_3 : gq 179 3 = 195 := by decide +kernel
theorem gq_179_4 : gq 179 4 = 196 := by decide +kernel
theorem gq_179_5 : gq 179 5 = 197 := by decide +kernel
theorem gK_180 : gK 180 = 103 := by decide +kernel
theorem gN_180 : ((gN 180 : Nat) : Int) = 12 := by decide +kernel
theorem gK_181 : gK 181 = 100 := by decide +kernel
theorem gN_181 : ((gN 181 : Nat) : Int) = 96 := by decide +kernel
theorem gK_182 : gK 182 = 100 := by decide +kernel
theorem gN_182 : ((gN 182 : Nat) : Int) = 96 := by decide +kernel
theorem gK_183 : gK 183 = 100 := by decide +kernel
theorem gN_183 : ((gN 183 : Nat) : Int) = 96 := by decide +kernel
theorem gK_184 : gK 184 = 100 := by decide +kernel
theorem gN_184 : ((gN 184 : Nat) : Int) = 96 := by decide +kernel
theorem gK_185 : gK 185 = 100 := by decide +kernel
theorem gN_185 : ((gN 185 : Nat) : Int) = 96 := by decide +kernel
theorem gK_186 : gK 186 = 100 := by decide +kernel
theorem gN_186 : ((gN 186 : Nat) : Int) = 96 := by decide +kernel
theorem gK_187 : gK 187 = 100 := by decide +kernel
theorem gN_187 : ((gN 187 : Nat) : Int) = 96 := by decide +kernel
theorem gK_188 : gK 188 = 100 := by decide +kernel
theorem gN_188 : ((gN 188 : Nat) : Int) = 96 := by decide +kernel
theorem gK_189 : gK 189 = 100 := by decide +kernel
theorem gN_189 : ((gN 189 : Nat) : Int) = 96 := by decide +kernel
theorem gK_190 : gK 190 = 100 := by decide +kernel
theorem gN_190 : ((gN 190 : Nat) : Int) = 96 := by decide +kernel
theorem gK_191 : gK 191 = 100 := by decide +kernel
theorem gN_191 : ((gN 191 : Nat) : Int) = 96 := by decide +kernel
theorem gK_192 : gK 192 = 100 := by decide +kernel
theorem gN_192 : ((gN 192 : Nat) : Int) = 96 := by decide +kernel
theorem gK_193 : gK 193 = 100 := by decide +kernel
theorem gN_193 : ((gN 193 : Nat) : Int) = 12 := by decide +kernel
theorem gK_194 : gK 194 = 100 := by decide +kernel
theorem gN_194 : ((gN 194 : Nat) : Int) = 12 := by decide +kernel
theorem gK_195 : gK 195 = 100 := by decide +kernel
theorem gN_195 : ((gN 195 : Nat) : Int) = 12 := by decide +kernel
theorem gK_196 : gK 196 = 100 := by decide +kernel
theorem gN_196 : ((gN 196 : Nat) : Int) = 12 := by decide +kernel
theorem gK_197 : gK 197 = 100 := by decide +kernel
theorem gN_197 : ((gN 197 : Nat) : Int) = 96 := by decide +kernel
theorem gK_198 : gK 198 = 2 := by decide +kernel
theorem gq_198_0 : gq 198 0 = 199 := by decide +kernel
theorem gK_199 : gK 199 = 100 := by decide +kernel
theorem gN_199 : ((gN 199 : Nat) : Int) = 60 := by decide +kernel
theorem gK_200 : gK 200 = 6 := by decide +kernel
theorem gq_200_0 : gq 200 0 = 201 := by decide +kernel
theorem gK_201 : gK 201 = 103 := by decide +kernel
theorem gN_201 : ((gN 201 : Nat) : Int) = 8 := by decide +kernel
theorem gK_202 : gK 202 = 100 := by decide +kernel
theorem gN_202 : ((gN 202 : Nat) : Int) = 2 := by decide +kernel
theorem gK_203 : gK 203 = 100 := by decide +kernel
theorem gN_203 : ((gN 203 : Nat) : Int) = 2 := by decide +kernel
theorem gK_204 : gK 204 = 100 := by decide +kernel
theorem gN_204 : ((gN 204 : Nat) : Int) = 2 := by decide +kernel
theorem gK_205 : gK 205 = 100 := by decide +kernel
theorem gN_205 : ((gN 205 : Nat) : Int) = 2 := by decide +kernel
theorem gK_206 : gK 206 = 100 := by decide +kernel
theorem gN_206 : ((gN 206 : Nat) : Int) = 2 := by decide +kernel
theorem gK_207 : gK 207 = 100 := by decide +kernel
theorem gN_207 : ((gN 207 : Nat) : Int) = 2 := by decide +kernel
theorem gK_208 : gK 208 = 100 := by decide +kernel
theorem gN_208 : ((gN 208 : Nat) : Int) = 2 := by decide +kernel
theorem gK_209 : gK 209 = 100 := by decide +kernel
theorem gN_209 : ((gN 209 : Nat) : Int) = 2 := by decide +kernel
theorem gK_210 : gK 210 = 11 := by decide +kernel
theorem gq_210_0 : gq 210 0 = 211 := by decide +kernel
theorem gq_210_1 : gq 210 1 = 212 := by decide +kernel
theorem gq_210_2 : gq 210 2 = 213 := by decide +kernel
theorem gq_210_3 : gq 210 3 = 214 := by decide +kernel
theorem gq_210_4 : gq 210 4 = 215 := by decide +kernel
theorem gK_211 : gK 211 = 100 := by decide +kernel
theorem gN_211 : ((gN 211 : Nat) : Int) = 30 := by decide +kernel
theorem gK_212 : gK 212 = 100 := by decide +kernel
theorem gN_212 : ((gN 212 : Nat) : Int) = 30 := by decide +kernel
theorem gK_213 : gK 213 = 100 := by decide +kernel
theorem gN_213 : ((gN 213 : Nat) : Int) = 30 := by decide +kernel
theorem gK_214 : gK 214 = 100 := by decide +kernel
theorem gN_214 : ((gN 214 : Nat) : Int) = 30 := by decide +kernel
theorem gK_215 : gK 215 = 103 := by decide +kernel
theorem gN_215 : ((gN 215 : Nat) : Int) = 8 := by decide +kernel
theorem gK_216 : gK 216 = 100 := by decide +kernel
theorem gN_216 : ((gN 216 : Nat) : Int) = 10 := by decide +kernel
theorem gK_217 : gK 217 = 100 := by decide +kernel
theorem gN_217 : ((gN 217 : Nat) : Int) = 10 := by decide +kernel
theorem gK_218 : gK 218 = 100 := by decide +kernel
theorem gN_218 : ((gN 218 : Nat) : Int) = 10 := by decide +kernel
theorem gK_219 : gK 219 = 100 := by decide +kernel
theorem gN_219 : ((gN 219 : Nat) : Int) = 10 := by decide +kernel
theorem gK_220 : gK 220 = 100 := by decide +kernel
theorem gN_220 : ((gN 220 : Nat) : Int) = 10 := by decide +kernel
theorem gK_221 : gK 221 = 100 := by decide +kernel
theorem gN_221 : ((gN 221 : Nat) : Int) = 10 := by decide +kernel
theorem gK_222 : gK 222 = 100 := by decide +kernel
theorem gN_222 : ((gN 222 : Nat) : Int) = 10 := by decide +kernel
theorem gK_223 : gK 223 = 100 := by decide +kernel
theorem gN_223 : ((gN 223 : Nat) : Int) = 10 := by decide +kernel
theorem gK_224 : gK 224 = 3 := by decide +kernel
theorem gq_224_0 : gq 224 0 = 225 := by decide +kernel
theorem gK_225 : gK 225 = 100 := by decide +kernel
theorem gN_225 : ((gN 225 : Nat) : Int) = 16 := by decide +kernel
theorem gK_226 : gK 226 = 7 := by decide +kernel
theorem gq_226_0 : gq 226 0 = 227 := by decide +kernel
theorem gq_226_2 : gq 226 2 = 228 := by decide +kernel
theorem gq_226_3 : gq 226 3 = 229 := by decide +kernel
theorem gK_227 : gK 227 = 100 := by decide +kernel
theorem gN_227 : ((gN 227 : Nat) : Int) = 8 := by decide +kernel
theorem gK_228 : gK 228 = 100 := by decide +kernel
theorem gN_228 : ((gN 228 : Nat) : Int) = 8 := by decide +kernel
theorem gK_229 : gK 229 = 100 := by decide +kernel
theorem gN_229 : ((gN 229 : Nat) : Int) = 8 := by decide +kernel
theorem gK_230 : gK 230 = 1 := by decide +kernel
theorem gq_230_0 : gq 230 0 = 231 := by decide +kernel
theorem gq_230_1 : gq 230 1 = 232 := by decide +kernel
theorem gq_230_2 : gq 230 2 = 233 := by decide +kernel
theorem gq_230_3 : gq 230 3 = 234 := by decide +kernel
theorem gq_230_4 : gq 230 4 = 235 := by decide +kernel
theorem gq_230_5 : gq 230 5 = 236 := by decide +kernel
theorem gq_230_6 : gq 230 6 = 237 := by decide +kernel
theorem gq_230_7 : gq 230 7 = 238 := by decide +kernel
theorem gK_231 : gK 231 = 100 := by decide +kernel
theorem gN_231 : ((gN 231 : Nat) : Int) = 12 := by decide +kernel
theorem gK_232 : gK 232 = 100 := by decide +kernel
theorem gN_232 : ((gN 232 : Nat) : Int) = 12 := by decide +kernel
theorem gK_233 : gK 233 = 101 := by decide +kernel
theorem gN_233 : ((gN 233 : Nat) : Int) = 12 := by decide +kernel
theorem gK_234 : gK 234 = 102 := by decide +kernel
theorem gN_234 : ((gN 234 : Nat) : Int) = 40 := by decide +kernel
theorem gK_235 : gK 235 = 100 := by decide +kernel
theorem gN_235 : ((gN 235 : Nat) : Int) = 13 := by decide +kernel
theorem gK_236 : gK 236 = 100 := by decide +kernel
theorem gN_236 : ((gN 236 : Nat) : Int) = 13 := by decide +kernel
theorem gK_237 : gK 237 = 100 := by decide +kernel
theorem gN_237 : ((gN 237 : Nat) : Int) = 13 := by decide +kernel
theorem gK_238 : gK 238 = 100 := by decide +kernel
theorem gN_238 : ((gN 238 : Nat) : Int) = 13 := by decide +kernel
theorem gK_239 : gK 239 = 4 := by decide +kernel
theorem gK_240 : gK 240 = 4 := by decide +kernel
theorem gK_241 : gK 241 = 4 := by decide +kernel
theorem gK_242 : gK 242 = 4 := by decide +kernel
theorem gK_243 : gK 243 = 4 := by decide +kernel
theorem gK_244 : gK 244 = 4 := by decide +kernel
theorem gK_245 : gK 245 = 4 := by decide +kernel
theorem gK_246 : gK 246 = 4 := by decide +kernel
theorem gK_247 : gK 247 = 4 := by decide +kernel
theorem gK_248 : gK 248 = 4 := by decide +kernel
theorem gK_249 : gK 249 = 4 := by decide +kernel
theorem gK_250 : gK 250 = 4 := by decide +kernel
theorem gK_251 : gK 251 = 4 := by decide +kernel
theorem gK_252 : gK 252 = 4 := by decide +kernel
theorem gK_253 : gK 253 = 4 := by decide +kernel
theorem gK_254 : gK 254 = 4 := by decide +kernel
theorem gK_255 : gK 255 = 4 := by decide +kernel
theorem gK_256 : gK 256 = 4 := by decide +kernel
theorem gK_257 : gK 257 = 4 := by decide +kernel
theorem gK_258 : gK 258 = 4 := by decide +kernel
theorem gK_259 : gK 259 = 4 := by decide +kernel
theorem gK_260 : gK 260 = 4 := by decide +kernel
theorem gK_261 : gK 261 = 4 := by decide +kernel
theorem gK_262 : gK 262 = 4 := by decide +kernel
theorem gK_263 : gK 263 = 4 := by decide +kernel
theorem gK_264 : gK 264 = 4 := by decide +kernel
theorem gK_265 : gK 265 = 4 := by decide +kernel
theorem gK_266 : gK 266 = 4 := by decide +kernel
theorem gK_267 : gK 267 = 4 := by decide +kernel
theorem gK_268 : gK 268 = 4 := by decide +kernel
theorem gK_269 : gK 269 = 4 := by decide +kernel
theorem gK_270 : gK 270 = 4 := by decide +kernel
theorem gK_271 : gK 271 = 4 := by decide +kernel
theorem gK_272 : gK 272 = 4 := by decide +kernel
theorem gK_273 : gK 273 = 4 := by decide +kernel
theorem gK_274 : gK 274 = 4 := by decide +kernel
theorem gK_275 : gK 275 = 4 := by decide +kernel
theorem gK_276 : gK 276 = 4 := by decide +kernel
theorem gK_277 : gK 277 = 4 := by decide +kernel
theorem gK_278 : gK 278 = 4 := by decide +kernel
theorem gK_279 : gK 279 = 8 := by decide +kernel
theorem gq_279_0 : gq 279 0 = 280 := by decide +kernel
theorem gq_279_5 : gq 279 5 = 281 := by decide +kernel
theorem gK_280 : gK 280 = 100 := by decide +kernel
theorem gN_280 : ((gN 280 : Nat) : Int) = 96 := by decide +kernel
theorem gK_281 : gK 281 = 100 := by decide +kernel
theorem gN_281 : ((gN 281 : Nat) : Int) = 96 := by decide +kernel
theorem gK_282 : gK 282 = 9 := by decide +kernel
theorem gq_282_0 : gq 282 0 = 283 := by decide +kernel
theorem gq_282_1 : gq 282 1 = 290 := by decide +kernel
theorem gq_282_2 : gq 282 2 = 291 := by decide +kernel
theorem gK_283 : gK 283 = 103 := by decide +kernel
theorem gN_283 : ((gN 283 : Nat) : Int) = 6 := by decide +kernel
theorem gK_284 : gK 284 = 100 := by decide +kernel
theorem gN_284 : ((gN 284 : Nat) : Int) = 24 := by decide +kernel
theorem gK_285 : gK 285 = 100 := by decide +kernel
theorem gN_285 : ((gN 285 : Nat) : Int) = 24 := by decide +kernel
theorem gK_286 : gK 286 = 100 := by decide +kernel
theorem gN_286 : ((gN 286 : Nat) : Int) = 24 := by decide +kernel
theorem gK_287 : gK 287 = 100 := by decide +kernel
theorem gN_287 : ((gN 287 : Nat) : Int) = 24 := by decide +kernel
theorem gK_288 : gK 288 = 100 := by decide +kernel
theorem gN_288 : ((gN 288 : Nat) : Int) = 24 := by decide +kernel
theorem gK_289 : gK 289 = 100 := by decide +kernel
theorem gN_289 : ((gN 289 : Nat) : Int) = 24 := by decide +kernel
theorem gK_290 : gK 290 = 100 := by decide +kernel
theorem gN_290 : ((gN 290 : Nat) : Int) = 6 := by decide +kernel
theorem gK_291 : gK 291 = 100 := by decide +kernel
theorem gN_291 : ((gN 291 : Nat) : Int) = 6 := by decide +kernel
theorem gK_292 : gK 292 = 100 := by decide +kernel
theorem gN_292 : ((gN 292 : Nat) : Int) = 60 := by decide +kernel
theorem gK_293 : gK 293 = 12 := by decide +kernel
theorem gq_293_0 : gq 293 0 = 294 := by decide +kernel
theorem gq_293_1 : gq 293 1 = 295 := by decide +kernel
theorem gq_293_2 : gq 293 2 = 296 := by decide +kernel
theorem gq_293_4 : gq 293 4 = 297 := by decide +kernel
theorem gq_293_5 : gq 293 5 = 298 := by decide +kernel
theorem gq_293_6 : gq 293 6 = 299 := by decide +kernel
theorem gq_293_7 : gq 293 7 = 300 := by decide +kernel
theorem gq_293_8 : gq 293 8 = 301 := by decide +kernel
theorem gq_293_20 : gq 293 20 = 302 := by decide +kernel
theorem gq_293_21 : gq 293 21 = 303 := by decide +kernel
theorem gq_293_22 : gq 293 22 = 304 := by decide +kernel
theorem gq_293_24 : gq 293 24 = 305 := by decide +kernel
theorem gq_293_25 : gq 293 25 = 306 := by decide +kernel
theorem gq_293_26 : gq 293 26 = 307 := by decide +kernel
theorem gq_293_28 : gq 293 28 = 308 := by decide +kernel
theorem gK_294 : gK 294 = 100 := by decide +kernel
theorem gN_294 : ((gN 294 : Nat) : Int) = 3540 := by decide +kernel
theorem gK_295 : gK 295 = 100 := by decide +kernel
theorem gN_295 : ((gN 295 : Nat) : Int) = 3540 := by decide +kernel
theorem gK_296 : gK 296 = 100 := by decide +kernel
theorem gN_296 : ((gN 296 : Nat) : Int) = 3540 := by decide +kernel
theorem gK_297 : gK 297 = 100 := by decide +kernel
theorem gN_297 : ((gN 297 : Nat) : Int) = 6 := by decide +kernel
theorem gK_298 : gK 298 = 100 := by decide +kernel
theorem gN_298 : ((gN 298 : Nat) : Int) = 6 := by decide +kernel
theorem gK_299 : gK 299 = 100 := by decide +kernel
theorem gN_299 : ((gN 299 : Nat) : Int) = 144 := by decide +kernel
theorem gK_300 : gK 300 = 100 := by decide +kernel
theorem gN_300 : ((gN 300 : Nat) : Int) = 40 := by decide +kernel
theorem gK_301 : gK 301 = 100 := by decide +kernel
theorem gN_301 : ((gN 301 : Nat) : Int) = 96 := by decide +kernel
theorem gK_302 : gK 302 = 100 := by decide +kernel
theorem gN_302 : ((gN 302 : Nat) : Int) = 128 := by decide +kernel
theorem gK_303 : gK 303 = 100 := by decide +kernel
theorem gN_303 : ((gN 303 : Nat) : Int) = 100 := by decide +kernel
theorem gK_304 : gK 304 = 100 := by decide +kernel
theorem gN_304 : ((gN 304 : Nat) : Int) = 30 := by decide +kernel
theorem gK_305 : gK 305 = 100 := by decide +kernel
theorem gN_305 : ((gN 305 : Nat) : Int) = 24 := by decide +kernel
theorem gK_306 : gK 306 = 100 := by decide +kernel
theorem gN_306 : ((gN 306 : Nat) : Int) = 8 := by decide +kernel
theorem gK_307 : gK 307 = 100 := by decide +kernel
theorem gN_307 : ((gN 307 : Nat) : Int) = 60 := by decide +kernel
theorem gK_308 : gK 308 = 100 := by decide +kernel
theorem gN_308 : ((gN 308 : Nat) : Int) = 60 := by decide +kernel
variable {L d : Nat} {σ σ1 : Nat → Nat → Int} {Q : Option gV → (Nat → Nat → Int) → Prop} {a0 a1 a2 a3 a4 a5 a6 a7 a8 a9 a10 a11 s0 s1 s2 s3 s4 s5 s6 s7 s8 s9 : Int} {l0 l1 l2 l3 l4 l5 l6 l7 l8 l9 l10 l11 t0 t1 t2 t3 t4 t5 t6 t7 t8 t9 : gV} {b0 b1 b2 b3 b4 b5 b6 b7 b8 b9 b10 b11 c0 c1 c2 c3 c4 c5 c6 c7 c8 c9 : Nat} {r : Option gV}
theorem r_X_within_0 : Wp L d k_X_within 0 [vI a0, l1, l2] [] σ Q ↔ Wp L d k_X_within 1 [vI a0, l1, l2] [vI a0] σ Q := wp_iload rfl rfl
theorem r_X_within_1 : Wp L d k_X_within 1 [l0, vI a1, l2] [vI s0] σ Q ↔ Wp L d k_X_within 2 [l0, vI a1, l2] [vI a1, vI s0] σ Q := wp_iload rfl rfl
theorem r_X_within_2 : Wp L d k_X_within 2 [l0, l1, l2] [vI s1, vI s0] σ Q ↔ (if s0 < s1 then Wp L d k_X_within 14 [l0, l1, l2] [] σ Q else Wp L d k_X_within 5 [l0, l1, l2] [] σ Q) := wp_cmp_lt rfl
theorem r_X_within_5 : Wp L d k_X_within 5 [vI a0, l1, l2] [] σ Q ↔ Wp L d k_X_within 6 [vI a0, l1, l2] [vI a0] σ Q := wp_iload rfl rfl
theorem r_X_within_6 : Wp L d k_X_within 6 [l0, l1, vI a2] [vI s0] σ Q ↔ Wp L d k_X_within 7 [l0, l1, vI a2] [vI a2, vI s0] σ Q := wp_iload rfl rfl
theorem r_X_within_7 : Wp L d k_X_within 7 [l0, l1, l2] [vI s1, vI s0] σ Q ↔ (if s1 < s0 then Wp L d k_X_within 14 [l0, l1, l2] [] σ Q else Wp L d k_X_within 10 [l0, l1, l2] [] σ Q) := wp_cmp_gt rfl
theorem r_X_within_10 : Wp L d k_X_within 10 [l0, l1, l2] [] σ Q ↔ Wp L d k_X_within 11 [l0, l1, l2] [vI 1] σ Q := wp_push rfl
theorem r_X_within_11 : Wp L d k_X_within 11 [l0, l1, l2] [vI s0] σ Q ↔ Wp L d k_X_within 15 [l0, l1, l2] [vI s0] σ Q := wp_goto rfl
theorem r_X_within_14 : Wp L d k_X_within 14 [l0, l1, l2] [] σ Q ↔ Wp L d k_X_within 15 [l0, l1, l2] [vI 0] σ Q := wp_push rfl
theorem r_X_within_15 (h : s0 = 0 ∨ s0 = 1) : Wp L d k_X_within 15 [l0, l1, l2] [vI s0] σ Q ↔ Q (some (vI s0)) σ := wp_zret rfl h
theorem sp_X_within : Run L d 15 [vI a0, vI a1, vI a2] σ (some (vI (gb (a1 ≤ a0 ∧ a0 ≤ a2)))) σ := by
  refine Run_of (C' := k_X_within) rfl ?_
  show Wp L d k_X_within 0 [vI a0, vI a1, vI a2] [] σ _
  simp only [r_X_within_0, r_X_within_1, r_X_within_2, r_X_within_5, r_X_within_6, r_X_within_7, r_X_within_10, r_X_within_11, r_X_within_14, r_X_within_15, Int.reduceLE, Int.reduceLT, Int.reduceEq, Int.reduceToNat, gb_01, eq_self, true_or, or_true, and_true, true_and]
  split
  · rw [gb_f (by omega)]
  · split
    · rw [gb_f (by omega)]
    · rw [gb_t (by omega)]

theorem r_X_bit_0 : Wp L d k_X_bit 0 [vI a0] [] σ Q ↔ Wp L d k_X_bit 1 [vI a0] [vI a0] σ Q := wp_iload rfl rfl
theorem r_X_bit_1 : Wp L d k_X_bit 1 [l0] [vI s0] σ Q ↔ (if s0 = 0 then Wp L d k_X_bit 8 [l0] [] σ Q else Wp L d k_X_bit 4 [l0] [] σ Q) := wp_if_eq rfl
theorem r_X_bit_4 : Wp L d k_X_bit 4 [l0] [] σ Q ↔ Wp L d k_X_bit 5 [l0] [vI 1] σ Q := wp_push rfl
theorem r_X_bit_5 : Wp L d k_X_bit 5 [l0] [vI s0] σ Q ↔ Wp L d k_X_bit 9 [l0] [vI s0] σ Q := wp_goto rfl
theorem r_X_bit_8 : Wp L d k_X_bit 8 [l0] [] σ Q ↔ Wp L d k_X_bit 9 [l0] [vI 0] σ Q := wp_push rfl
theorem r_X_bit_9 : Wp L d k_X_bit 9 [l0] [vI s0] σ Q ↔ Q (some (vI s0)) σ := wp_iret rfl
theorem sp_X_bit : Run L d 19 [vI a0] σ (some (vI (gb (a0 ≠ 0)))) σ := by
  refine Run_of (C' := k_X_bit) rfl ?_
  show Wp L d k_X_bit 0 [vI a0] [] σ _
  simp only [r_X_bit_0, r_X_bit_1, r_X_bit_4, r_X_bit_5, r_X_bit_8, r_X_bit_9, Int.reduceLE, Int.reduceLT, Int.reduceEq, Int.reduceToNat, gb_01, eq_self, true_or, or_true, and_true, true_and]
  split
  · rw [gb_f (by omega)]
  · rw [gb_t (by omega)]

theorem r_M_isIn_0 : Wp L d k_M_isIn 0 [vL a0, l1, l2, l3, l4, l5] [] σ Q ↔ Wp L d k_M_isIn 1 [vL a0, l1, l2, l3, l4, l5] [vL a0] σ Q := wp_lload rfl rfl
theorem r_M_isIn_1 : Wp L d k_M_isIn 1 [l0, l1, vL a2, l3, l4, l5] [vL s0] σ Q ↔ Wp L d k_M_isIn 2 [l0, l1, vL a2, l3, l4, l5] [vL a2, vL s0] σ Q := wp_lload rfl rfl
theorem r_M_isIn_2 : Wp L d k_M_isIn 2 [l0, l1, l2, l3, l4, l5] [vL s1, vL s0] σ Q ↔ Wp L d k_M_isIn 3 [l0, l1, l2, l3, l4, l5] [vI (glcmp s0 s1)] σ Q := wp_lcmp rfl
theorem r_M_isIn_3 : Wp L d k_M_isIn 3 [l0, l1, l2, l3, l4, l5] [vI s0] σ Q ↔ (if s0 < 0 then Wp L d k_M_isIn 17 [l0, l1, l2, l3, l4, l5] [] σ Q else Wp L d k_M_isIn 6 [l0, l1, l2, l3, l4, l5] [] σ Q) := wp_if_lt rfl
theorem r_M_isIn_6 : Wp L d k_M_isIn 6 [vL a0, l1, l2, l3, l4, l5] [] σ Q ↔ Wp L d k_M_isIn 7 [vL a0, l1, l2, l3, l4, l5] [vL a0] σ Q := wp_lload rfl rfl
theorem r_M_isIn_7 : Wp L d k_M_isIn 7 [l0, l1, l2, l3, vL a4, l5] [vL s0] σ Q ↔ Wp L d k_M_isIn 9 [l0, l1, l2, l3, vL a4, l5] [vL a4, vL s0] σ Q := wp_lload rfl rfl
theorem r_M_isIn_9 : Wp L d k_M_isIn 9 [l0, l1, l2, l3, l4, l5] [vL s1, vL s0] σ Q ↔ Wp L d k_M_isIn 10 [l0, l1, l2, l3, l4, l5] [vI (glcmp s0 s1)] σ Q := wp_lcmp rfl
theorem r_M_isIn_10 : Wp L d k_M_isIn 10 [l0, l1, l2, l3, l4, l5] [vI s0] σ Q ↔ (if 0 < s0 then Wp L d k_M_isIn 17 [l0, l1, l2, l3, l4, l5] [] σ Q else Wp L d k_M_isIn 13 [l0, l1, l2, l3, l4, l5] [] σ Q) := wp_if_gt rfl
theorem r_M_isIn_13 : Wp L d k_M_isIn 13 [l0, l1, l2, l3, l4, l5] [] σ Q ↔ Wp L d k_M_isIn 14 [l0, l1, l2, l3, l4, l5] [vI 1] σ Q := wp_push rfl
theorem r_M_isIn_14 : Wp L d k_M_isIn 14 [l0, l1, l2, l3, l4, l5] [vI s0] σ Q ↔ Wp L d k_M_isIn 18 [l0, l1, l2, l3, l4, l5] [vI s0] σ Q := wp_goto rfl
theorem r_M_isIn_17 : Wp L d k_M_isIn 17 [l0, l1, l2, l3, l4, l5] [] σ Q ↔ Wp L d k_M_isIn 18 [l0, l1, l2, l3, l4, l5] [vI 0] σ Q := wp_push rfl
theorem r_M_isIn_18 (h : s0 = 0 ∨ s0 = 1) : Wp L d k_M_isIn 18 [l0, l1, l2, l3, l4, l5] [vI s0] σ Q ↔ Q (some (vI s0)) σ := wp_zret rfl h
theorem sp_M_isIn : Run L d 195 [vL a0, vL a1, vL a2] σ (some (vI (gb (a1 ≤ a0 ∧ a0 ≤ a2)))) σ := by
  refine Run_of (C' := k_M_isIn) rfl ?_
  show Wp L d k_M_isIn 0 [vL a0, vU, vL a1, vU, vL a2, vU] [] σ _
  simp only [r_M_isIn_0, r_M_isIn_1, r_M_isIn_2, r_M_isIn_3, r_M_isIn_6, r_M_isIn_7, r_M_isIn_9, r_M_isIn_10, r_M_isIn_13, r_M_isIn_14, r_M_isIn_17, r_M_isIn_18, glcmp_lt0, glcmp_gt0, Int.reduceLE, Int.reduceLT, Int.reduceEq, Int.reduceToNat, gb_01, eq_self, true_or, or_true, and_true, true_and]
  split
  · rw [gb_f (by omega)]
  · split
    · rw [gb_f (by omega)]
    · rw [gb_t (by omega)]

theorem r_X_isGust_0 : Wp L d k_X_isGust 0 [vI a0] [] σ Q ↔ Wp L d k_X_isGust 1 [vI a0] [vI a0] σ Q := wp_iload rfl rfl
theorem r_X_isGust_1 : Wp L d k_X_isGust 1 [l0] [vI s0] σ Q ↔ Wp L d k_X_isGust 2 [l0] [vI 0, vI s0] σ Q := wp_push rfl
theorem r_X_isGust_2 : Wp L d k_X_isGust 2 [l0] [vI s1, vI s0] σ Q ↔ Wp L d k_X_isGust 4 [l0] [vI 99, vI s1, vI s0] σ Q := wp_push rfl
theorem r_X_isGust_4 : Wp L (d + 1) k_X_isGust 4 [l0] [vI s2, vI s1, vI s0] σ Q ↔ Wp L (d + 1) k_X_isGust 7 [l0] [vI (gb (s1 ≤ s0 ∧ s0 ≤ s2))] σ Q := wp_callR (d := d + 0) (as := [vI s0, vI s1, vI s2]) (rest := []) rfl rfl rfl rfl rfl rfl rfl rfl (sp_X_within)
theorem r_X_isGust_7 (h : s0 = 0 ∨ s0 = 1) : Wp L d k_X_isGust 7 [l0] [vI s0] σ Q ↔ Q (some (vI s0)) σ := wp_zret rfl h
theorem sp_X_isGust : Run L (d + 1) 30 [vI a0] σ (some (vI (gb (0 ≤ a0 ∧ a0 ≤ 99)))) σ := by
  refine Run_of (C' := k_X_isGust) rfl ?_
  show Wp L (d + 1) k_X_isGust 0 [vI a0] [] σ _
  simp only [r_X_isGust_0, r_X_isGust_1, r_X_isGust_2, r_X_isGust_4, r_X_isGust_7, Int.reduceLE, Int.reduceLT, Int.reduceEq, Int.reduceToNat, gb_01, eq_self, true_or, or_true, and_true, true_and]

theorem r_X_isSecond_0 : Wp L d k_X_isSecond 0 [vI a0] [] σ Q ↔ Wp L d k_X_isSecond 1 [vI a0] [vI a0] σ Q := wp_iload rfl rfl
theorem r_X_isSecond_1 : Wp L d k_X_isSecond 1 [l0] [vI s0] σ Q ↔ Wp L d k_X_isSecond 2 [l0] [vI 0, vI s0] σ Q := wp_push rfl
theorem r_X_isSecond_2 : Wp L d k_X_isSecond 2 [l0] [vI s1, vI s0] σ Q ↔ Wp L d k_X_isSecond 4 [l0] [vI 59, vI s1, vI s0] σ Q := wp_push rfl
theorem r_X_isSecond_4 : Wp L (d + 1) k_X_isSecond 4 [l0] [vI s2, vI s1, vI s0] σ Q ↔ Wp L (d + 1) k_X_isSecond 7 [l0] [vI (gb (s1 ≤ s0 ∧ s0 ≤ s2))] σ Q := wp_callR (d := d + 0) (as := [vI s0, vI s1, vI s2]) (rest := []) rfl rfl rfl rfl rfl rfl rfl rfl (sp_X_within)
theorem r_X_isSecond_7 (h : s0 = 0 ∨ s0 = 1) : Wp L d k_X_isSecond 7 [l0] [vI s0] σ Q ↔ Q (some (vI s0)) σ := wp_zret rfl h
theorem sp_X_isSecond : Run L (d + 1) 50 [vI a0] σ (some (vI (gb (0 ≤ a0 ∧ a0 ≤ 59)))) σ := by
  refine Run_of (C' := k_X_isSecond) rfl ?_
  show Wp L (d + 1) k_X_isSecond 0 [vI a0] [] σ _
  simp only [r_X_isSecond_0, r_X_isSecond_1, r_X_isSecond_2, r_X_isSecond_4, r_X_isSecond_7, Int.reduceLE, Int.reduceLT, Int.reduceEq, Int.reduceToNat, gb_01, eq_self, true_or, or_true, and_true, true_and]

theorem r_X_isMonth_0 : Wp L d k_X_isMonth 0 [vI a0] [] σ Q ↔ Wp L d k_X_isMonth 1 [vI a0] [vI a0] σ Q := wp_iload rfl rfl
theorem r_X_isMonth_1 : Wp L d k_X_isMonth 1 [l0] [vI s0] σ Q ↔ Wp L d k_X_isMonth 2 [l0] [vI 0, vI s0] σ Q := wp_push rfl
theorem r_X_isMonth_2 : Wp L d k_X_isMonth 2 [l0] [vI s1, vI s0] σ Q ↔ Wp L d k_X_isMonth 5 [l0] [vI 599, vI s1, vI s0] σ Q := wp_push rfl
theorem r_X_isMonth_5 : Wp L (d + 1) k_X_isMonth 5 [l0] [vI s2, vI s1, vI s0] σ Q ↔ Wp L (d + 1) k_X_isMonth 8 [l0] [vI (gb (s1 ≤ s0 ∧ s0 ≤ s2))] σ Q := wp_callR (d := d + 0) (as := [vI s0, vI s1, vI s2]) (rest := []) rfl rfl rfl rfl rfl rfl rfl rfl (sp_X_within)
theorem r_X_isMonth_8 (h : s0 = 0 ∨ s0 = 1) : Wp L d k_X_isMonth 8 [l0] [vI s0] σ Q ↔ Q (some (vI s0)) σ := wp_zret rfl h
theorem sp_X_isMonth : Run L (d + 1) 40 [vI a0] σ (some (vI (gb (0 ≤ a0 ∧ a0 ≤ 599)))) σ := by
  refine Run_of (C' := k_X_isMonth) rfl ?_
  show Wp L (d + 1) k_X_isMonth 0 [vI a0] [] σ _
  simp only [r_X_isMonth_0, r_X_isMonth_1, r_X_isMonth_2, r_X_isMonth_5, r_X_isMonth_8, Int.reduceLE, Int.reduceLT, Int.reduceEq, Int.reduceToNat, gb_01, eq_self, true_or, or_true, and_true, true_and]

theorem r_X_isTrains_0 : Wp L d k_X_isTrains 0 [vI a0] [] σ Q ↔ Wp L d k_X_isTrains 1 [vI a0] [vI a0] σ Q := wp_iload rfl rfl
theorem r_X_isTrains_1 : Wp L d k_X_isTrains 1 [l0] [vI s0] σ Q ↔ Wp L d k_X_isTrains 2 [l0] [vI 0, vI s0] σ Q := wp_push rfl
theorem r_X_isTrains_2 : Wp L d k_X_isTrains 2 [l0] [vI s1, vI s0] σ Q ↔ Wp L d k_X_isTrains 5 [l0] [vI 999, vI s1, vI s0] σ Q := wp_push rfl
theorem r_X_isTrains_5 : Wp L (d + 1) k_X_isTrains 5 [l0] [vI s2, vI s1, vI s0] σ Q ↔ Wp L (d + 1) k_X_isTrains 8 [l0] [vI (gb (s1 ≤ s0 ∧ s0 ≤ s2))] σ Q := wp_callR (d := d + 0) (as := [vI s0, vI s1, vI s2]) (rest := []) rfl rfl rfl rfl rfl rfl rfl rfl (sp_X_within)
theorem r_X_isTrains_8 (h : s0 = 0 ∨ s0 = 1) : Wp L d k_X_isTrains 8 [l0] [vI s0] σ Q ↔ Q (some (vI s0)) σ := wp_zret rfl h
theorem sp_X_isTrains : Run L (d + 1) 46 [vI a0] σ (some (vI (gb (0 ≤ a0 ∧ a0 ≤ 999)))) σ := by
  refine Run_of (C' := k_X_isTrains) rfl ?_
  show Wp L (d + 1) k_X_isTrains 0 [vI a0] [] σ _
  simp only [r_X_isTrains_0, r_X_isTrains_1, r_X_isTrains_2, r_X_isTrains_5, r_X_isTrains_8, Int.reduceLE, Int.reduceLT, Int.reduceEq, Int.reduceToNat, gb_01, eq_self, true_or, or_true, and_true, true_and]

theorem r_X_isKey_0 : Wp L d k_X_isKey 0 [vI a0] [] σ Q ↔ Wp L d k_X_isKey 1 [vI a0] [vI a0] σ Q := wp_iload rfl rfl
theorem r_X_isKey_1 : Wp L d k_X_isKey 1 [l0] [vI s0] σ Q ↔ Wp L d k_X_isKey 2 [l0] [vI 0, vI s0] σ Q := wp_push rfl
theorem r_X_isKey_2 : Wp L d k_X_isKey 2 [l0] [vI s1, vI s0] σ Q ↔ Wp L d k_X_isKey 3 [l0] [vI 3, vI s1, vI s0] σ Q := wp_push rfl
theorem r_X_isKey_3 : Wp L (d + 1) k_X_isKey 3 [l0] [vI s2, vI s1, vI s0] σ Q ↔ Wp L (d + 1) k_X_isKey 6 [l0] [vI (gb (s1 ≤ s0 ∧ s0 ≤ s2))] σ Q := wp_callR (d := d + 0) (as := [vI s0, vI s1, vI s2]) (rest := []) rfl rfl rfl rfl rfl rfl rfl rfl (sp_X_within)
theorem r_X_isKey_6 (h : s0 = 0 ∨ s0 = 1) : Wp L d k_X_isKey 6 [l0] [vI s0] σ Q ↔ Q (some (vI s0)) σ := wp_zret rfl h
theorem sp_X_isKey : Run L (d + 1) 43 [vI a0] σ (some (vI (gb (0 ≤ a0 ∧ a0 ≤ 3)))) σ := by
  refine Run_of (C' := k_X_isKey) rfl ?_
  show Wp L (d + 1) k_X_isKey 0 [vI a0] [] σ _
  simp only [r_X_isKey_0, r_X_isKey_1, r_X_isKey_2, r_X_isKey_3, r_X_isKey_6, Int.reduceLE, Int.reduceLT, Int.reduceEq, Int.reduceToNat, gb_01, eq_self, true_or, or_true, and_true, true_and]

theorem r_X_isDay_0 : Wp L d k_X_isDay 0 [vI a0] [] σ Q ↔ Wp L d k_X_isDay 1 [vI a0] [vI a0] σ Q := wp_iload rfl rfl
theorem r_X_isDay_1 : Wp L d k_X_isDay 1 [l0] [vI s0] σ Q ↔ Wp L d k_X_isDay 2 [l0] [vI 0, vI s0] σ Q := wp_push rfl
theorem r_X_isDay_2 : Wp L d k_X_isDay 2 [l0] [vI s1, vI s0] σ Q ↔ Wp L d k_X_isDay 5 [l0] [vI 9999, vI s1, vI s0] σ Q := wp_push rfl
theorem r_X_isDay_5 : Wp L (d + 1) k_X_isDay 5 [l0] [vI s2, vI s1, vI s0] σ Q ↔ Wp L (d + 1) k_X_isDay 8 [l0] [vI (gb (s1 ≤ s0 ∧ s0 ≤ s2))] σ Q := wp_callR (d := d + 0) (as := [vI s0, vI s1, vI s2]) (rest := []) rfl rfl rfl rfl rfl rfl rfl rfl (sp_X_within)
theorem r_X_isDay_8 (h : s0 = 0 ∨ s0 = 1) : Wp L d k_X_isDay 8 [l0] [vI s0] σ Q ↔ Q (some (vI s0)) σ := wp_zret rfl h
theorem sp_X_isDay : Run L (d + 1) 62 [vI a0] σ (some (vI (gb (0 ≤ a0 ∧ a0 ≤ 9999)))) σ := by
  refine Run_of (C' := k_X_isDay) rfl ?_
  show Wp L (d + 1) k_X_isDay 0 [vI a0] [] σ _
  simp only [r_X_isDay_0, r_X_isDay_1, r_X_isDay_2, r_X_isDay_5, r_X_isDay_8, Int.reduceLE, Int.reduceLT, Int.reduceEq, Int.reduceToNat, gb_01, eq_self, true_or, or_true, and_true, true_and]

theorem r_X_isOffice_0 : Wp L d k_X_isOffice 0 [vI a0] [] σ Q ↔ Wp L d k_X_isOffice 1 [vI a0] [vI a0] σ Q := wp_iload rfl rfl
theorem r_X_isOffice_1 : Wp L d k_X_isOffice 1 [l0] [vI s0] σ Q ↔ Wp L d k_X_isOffice 2 [l0] [vI 0, vI s0] σ Q := wp_push rfl
theorem r_X_isOffice_2 : Wp L d k_X_isOffice 2 [l0] [vI s1, vI s0] σ Q ↔ Wp L d k_X_isOffice 4 [l0] [vI 7, vI s1, vI s0] σ Q := wp_push rfl
theorem r_X_isOffice_4 : Wp L (d + 1) k_X_isOffice 4 [l0] [vI s2, vI s1, vI s0] σ Q ↔ Wp L (d + 1) k_X_isOffice 7 [l0] [vI (gb (s1 ≤ s0 ∧ s0 ≤ s2))] σ Q := wp_callR (d := d + 0) (as := [vI s0, vI s1, vI s2]) (rest := []) rfl rfl rfl rfl rfl rfl rfl rfl (sp_X_within)
theorem r_X_isOffice_7 (h : s0 = 0 ∨ s0 = 1) : Wp L d k_X_isOffice 7 [l0] [vI s0] σ Q ↔ Q (some (vI s0)) σ := wp_zret rfl h
theorem sp_X_isOffice : Run L (d + 1) 63 [vI a0] σ (some (vI (gb (0 ≤ a0 ∧ a0 ≤ 7)))) σ := by
  refine Run_of (C' := k_X_isOffice) rfl ?_
  show Wp L (d + 1) k_X_isOffice 0 [vI a0] [] σ _
  simp only [r_X_isOffice_0, r_X_isOffice_1, r_X_isOffice_2, r_X_isOffice_4, r_X_isOffice_7, Int.reduceLE, Int.reduceLT, Int.reduceEq, Int.reduceToNat, gb_01, eq_self, true_or, or_true, and_true, true_and]

theorem r_X_isMatter_0 : Wp L d k_X_isMatter 0 [vI a0] [] σ Q ↔ Wp L d k_X_isMatter 1 [vI a0] [vI a0] σ Q := wp_iload rfl rfl
theorem r_X_isMatter_1 : Wp L d k_X_isMatter 1 [l0] [vI s0] σ Q ↔ Wp L d k_X_isMatter 2 [l0] [vI 0, vI s0] σ Q := wp_push rfl
theorem r_X_isMatter_2 : Wp L d k_X_isMatter 2 [l0] [vI s1, vI s0] σ Q ↔ Wp L d k_X_isMatter 4 [l0] [vI 9, vI s1, vI s0] σ Q := wp_push rfl
theorem r_X_isMatter_4 : Wp L (d + 1) k_X_isMatter 4 [l0] [vI s2, vI s1, vI s0] σ Q ↔ Wp L (d + 1) k_X_isMatter 7 [l0] [vI (gb (s1 ≤ s0 ∧ s0 ≤ s2))] σ Q := wp_callR (d := d + 0) (as := [vI s0, vI s1, vI s2]) (rest := []) rfl rfl rfl rfl rfl rfl rfl rfl (sp_X_within)
theorem r_X_isMatter_7 (h : s0 = 0 ∨ s0 = 1) : Wp L d k_X_isMatter 7 [l0] [vI s0] σ Q ↔ Q (some (vI s0)) σ := wp_zret rfl h
theorem sp_X_isMatter : Run L (d + 1) 64 [vI a0] σ (some (vI (gb (0 ≤ a0 ∧ a0 ≤ 9)))) σ := by
  refine Run_of (C' := k_X_isMatter) rfl ?_
  show Wp L (d + 1) k_X_isMatter 0 [vI a0] [] σ _
  simp only [r_X_isMatter_0, r_X_isMatter_1, r_X_isMatter_2, r_X_isMatter_4, r_X_isMatter_7, Int.reduceLE, Int.reduceLT, Int.reduceEq, Int.reduceToNat, gb_01, eq_self, true_or, or_true, and_true, true_and]

theorem r_X_isTest_0 : Wp L d k_X_isTest 0 [vI a0] [] σ Q ↔ Wp L d k_X_isTest 1 [vI a0] [vI a0] σ Q := wp_iload rfl rfl
theorem r_X_isTest_1 : Wp L d k_X_isTest 1 [l0] [vI s0] σ Q ↔ Wp L d k_X_isTest 2 [l0] [vI 0, vI s0] σ Q := wp_push rfl
theorem r_X_isTest_2 : Wp L d k_X_isTest 2 [l0] [vI s1, vI s0] σ Q ↔ Wp L d k_X_isTest 3 [l0] [vI 5, vI s1, vI s0] σ Q := wp_push rfl
theorem r_X_isTest_3 : Wp L (d + 1) k_X_isTest 3 [l0] [vI s2, vI s1, vI s0] σ Q ↔ Wp L (d + 1) k_X_isTest 6 [l0] [vI (gb (s1 ≤ s0 ∧ s0 ≤ s2))] σ Q := wp_callR (d := d + 0) (as := [vI s0, vI s1, vI s2]) (rest := []) rfl rfl rfl rfl rfl rfl rfl rfl (sp_X_within)
theorem r_X_isTest_6 (h : s0 = 0 ∨ s0 = 1) : Wp L d k_X_isTest 6 [l0] [vI s0] σ Q ↔ Q (some (vI s0)) σ := wp_zret rfl h
theorem sp_X_isTest : Run L (d + 1) 75 [vI a0] σ (some (vI (gb (0 ≤ a0 ∧ a0 ≤ 5)))) σ := by
  refine Run_of (C' := k_X_isTest) rfl ?_
  show Wp L (d + 1) k_X_isTest 0 [vI a0] [] σ _
  simp only [r_X_isTest_0, r_X_isTest_1, r_X_isTest_2, r_X_isTest_3, r_X_isTest_6, Int.reduceLE, Int.reduceLT, Int.reduceEq, Int.reduceToNat, gb_01, eq_self, true_or, or_true, and_true, true_and]

theorem r_M_isGust_0 : Wp L d k_M_isGust 0 [vI a0] [] σ Q ↔ Wp L d k_M_isGust 1 [vI a0] [vI a0] σ Q := wp_iload rfl rfl
theorem r_M_isGust_1 : Wp L d k_M_isGust 1 [l0] [vI s0] σ Q ↔ Wp L d k_M_isGust 2 [l0] [vL s0] σ Q := wp_i2l rfl
theorem r_M_isGust_2 : Wp L d k_M_isGust 2 [l0] [vL s0] σ Q ↔ Wp L d k_M_isGust 3 [l0] [vL 0, vL s0] σ Q := wp_pushL rfl
theorem r_M_isGust_3 : Wp L d k_M_isGust 3 [l0] [vL s1, vL s0] σ Q ↔ Wp L d k_M_isGust 6 [l0] [vL 99, vL s1, vL s0] σ Q := wp_pushL rfl
theorem r_M_isGust_6 : Wp L (d + 1) k_M_isGust 6 [l0] [vL s2, vL s1, vL s0] σ Q ↔ Wp L (d + 1) k_M_isGust 9 [l0] [vI (gb (s1 ≤ s0 ∧ s0 ≤ s2))] σ Q := wp_callR (d := d + 0) (as := [vL s0, vL s1, vL s2]) (rest := []) rfl rfl rfl rfl rfl rfl rfl rfl (sp_M_isIn)
theorem r_M_isGust_9 (h : s0 = 0 ∨ s0 = 1) : Wp L d k_M_isGust 9 [l0] [vI s0] σ Q ↔ Q (some (vI s0)) σ := wp_zret rfl h
theorem sp_M_isGust : Run L (d + 1) 218 [vI a0] σ (some (vI (gb (0 ≤ a0 ∧ a0 ≤ 99)))) σ := by
  refine Run_of (C' := k_M_isGust) rfl ?_
  show Wp L (d + 1) k_M_isGust 0 [vI a0] [] σ _
  simp only [r_M_isGust_0, r_M_isGust_1, r_M_isGust_2, r_M_isGust_3, r_M_isGust_6, r_M_isGust_9, Int.reduceLE, Int.reduceLT, Int.reduceEq, Int.reduceToNat, gb_01, eq_self, true_or, or_true, and_true, true_and]

theorem r_M_isOffice_0 : Wp L d k_M_isOffice 0 [vI a0] [] σ Q ↔ Wp L d k_M_isOffice 1 [vI a0] [vI a0] σ Q := wp_iload rfl rfl
theorem r_M_isOffice_1 : Wp L d k_M_isOffice 1 [l0] [vI s0] σ Q ↔ Wp L d k_M_isOffice 2 [l0] [vL s0] σ Q := wp_i2l rfl
theorem r_M_isOffice_2 : Wp L d k_M_isOffice 2 [l0] [vL s0] σ Q ↔ Wp L d k_M_isOffice 3 [l0] [vL 0, vL s0] σ Q := wp_pushL rfl
theorem r_M_isOffice_3 : Wp L d k_M_isOffice 3 [l0] [vL s1, vL s0] σ Q ↔ Wp L d k_M_isOffice 6 [l0] [vL 7, vL s1, vL s0] σ Q := wp_pushL rfl
theorem r_M_isOffice_6 : Wp L (d + 1) k_M_isOffice 6 [l0] [vL s2, vL s1, vL s0] σ Q ↔ Wp L (d + 1) k_M_isOffice 9 [l0] [vI (gb (s1 ≤ s0 ∧ s0 ≤ s2))] σ Q := wp_callR (d := d + 0) (as := [vL s0, vL s1, vL s2]) (rest := []) rfl rfl rfl rfl rfl rfl rfl rfl (sp_M_isIn)
theorem r_M_isOffice_9 (h : s0 = 0 ∨ s0 = 1) : Wp L d k_M_isOffice 9 [l0] [vI s0] σ Q ↔ Q (some (vI s0)) σ := wp_zret rfl h
theorem sp_M_isOffice : Run L (d + 1) 288 [vI a0] σ (some (vI (gb (0 ≤ a0 ∧ a0 ≤ 7)))) σ := by
  refine Run_of (C' := k_M_isOffice) rfl ?_
  show Wp L (d + 1) k_M_isOffice 0 [vI a0] [] σ _
  simp only [r_M_isOffice_0, r_M_isOffice_1, r_M_isOffice_2, r_M_isOffice_3, r_M_isOffice_6, r_M_isOffice_9, Int.reduceLE, Int.reduceLT, Int.reduceEq, Int.reduceToNat, gb_01, eq_self, true_or, or_true, and_true, true_and]

theorem r_M_isMatter_0 : Wp L d k_M_isMatter 0 [vI a0] [] σ Q ↔ Wp L d k_M_isMatter 1 [vI a0] [vI a0] σ Q := wp_iload rfl rfl
theorem r_M_isMatter_1 : Wp L d k_M_isMatter 1 [l0] [vI s0] σ Q ↔ Wp L d k_M_isMatter 2 [l0] [vL s0] σ Q := wp_i2l rfl
theorem r_M_isMatter_2 : Wp L d k_M_isMatter 2 [l0] [vL s0] σ Q ↔ Wp L d k_M_isMatter 3 [l0] [vL 0, vL s0] σ Q := wp_pushL rfl
theorem r_M_isMatter_3 : Wp L d k_M_isMatter 3 [l0] [vL s1, vL s0] σ Q ↔ Wp L d k_M_isMatter 6 [l0] [vL 9, vL s1, vL s0] σ Q := wp_pushL rfl
theorem r_M_isMatter_6 : Wp L (d + 1) k_M_isMatter 6 [l0] [vL s2, vL s1, vL s0] σ Q ↔ Wp L (d + 1) k_M_isMatter 9 [l0] [vI (gb (s1 ≤ s0 ∧ s0 ≤ s2))] σ Q := wp_callR (d := d + 0) (as := [vL s0, vL s1, vL s2]) (rest := []) rfl rfl rfl rfl rfl rfl rfl rfl (sp_M_isIn)
theorem r_M_isMatter_9 (h : s0 = 0 ∨ s0 = 1) : Wp L d k_M_isMatter 9 [l0] [vI s0] σ Q ↔ Q (some (vI s0)) σ := wp_zret rfl h
theorem sp_M_isMatter : Run L (d + 1) 289 [vI a0] σ (some (vI (gb (0 ≤ a0 ∧ a0 ≤ 9)))) σ := by
  refine Run_of (C' := k_M_isMatter) rfl ?_
  show Wp L (d + 1) k_M_isMatter 0 [vI a0] [] σ _
  simp only [r_M_isMatter_0, r_M_isMatter_1, r_M_isMatter_2, r_M_isMatter_3, r_M_isMatter_6, r_M_isMatter_9, Int.reduceLE, Int.reduceLT, Int.reduceEq, Int.reduceToNat, gb_01, eq_self, true_or, or_true, and_true, true_and]

theorem r_M_isDay_0 : Wp L d k_M_isDay 0 [vI a0] [] σ Q ↔ Wp L d k_M_isDay 1 [vI a0] [vI a0] σ Q := wp_iload rfl rfl
theorem r_M_isDay_1 : Wp L d k_M_isDay 1 [l0] [vI s0] σ Q ↔ Wp L d k_M_isDay 2 [l0] [vL s0] σ Q := wp_i2l rfl
theorem r_M_isDay_2 : Wp L d k_M_isDay 2 [l0] [vL s0] σ Q ↔ Wp L d k_M_isDay 3 [l0] [vL 0, vL s0] σ Q := wp_pushL rfl
theorem r_M_isDay_3 : Wp L d k_M_isDay 3 [l0] [vL s1, vL s0] σ Q ↔ Wp L d k_M_isDay 6 [l0] [vL 9999, vL s1, vL s0] σ Q := wp_pushL rfl
theorem r_M_isDay_6 : Wp L (d + 1) k_M_isDay 6 [l0] [vL s2, vL s1, vL s0] σ Q ↔ Wp L (d + 1) k_M_isDay 9 [l0] [vI (gb (s1 ≤ s0 ∧ s0 ≤ s2))] σ Q := wp_callR (d := d + 0) (as := [vL s0, vL s1, vL s2]) (rest := []) rfl rfl rfl rfl rfl rfl rfl rfl (sp_M_isIn)
theorem r_M_isDay_9 (h : s0 = 0 ∨ s0 = 1) : Wp L d k_M_isDay 9 [l0] [vI s0] σ Q ↔ Q (some (vI s0)) σ := wp_zret rfl h
theorem sp_M_isDay : Run L (d + 1) 287 [vI a0] σ (some (vI (gb (0 ≤ a0 ∧ a0 ≤ 9999)))) σ := by
  refine Run_of (C' := k_M_isDay) rfl ?_
  show Wp L (d + 1) k_M_isDay 0 [vI a0] [] σ _
  simp only [r_M_isDay_0, r_M_isDay_1, r_M_isDay_2, r_M_isDay_3, r_M_isDay_6, r_M_isDay_9, Int.reduceLE, Int.reduceLT, Int.reduceEq, Int.reduceToNat, gb_01, eq_self, true_or, or_true, and_true, true_and]

theorem r_M_isTest_0 : Wp L d k_M_isTest 0 [vI a0] [] σ Q ↔ Wp L d k_M_isTest 1 [vI a0] [vI a0] σ Q := wp_iload rfl rfl
theorem r_M_isTest_1 : Wp L d k_M_isTest 1 [l0] [vI s0] σ Q ↔ Wp L d k_M_isTest 2 [l0] [vL s0] σ Q := wp_i2l rfl
theorem r_M_isTest_2 : Wp L d k_M_isTest 2 [l0] [vL s0] σ Q ↔ Wp L d k_M_isTest 3 [l0] [vL 0, vL s0] σ Q := wp_pushL rfl
theorem r_M_isTest_3 : Wp L d k_M_isTest 3 [l0] [vL s1, vL s0] σ Q ↔ Wp L d k_M_isTest 6 [l0] [vL 5, vL s1, vL s0] σ Q := wp_pushL rfl
theorem r_M_isTest_6 : Wp L (d + 1) k_M_isTest 6 [l0] [vL s2, vL s1, vL s0] σ Q ↔ Wp L (d + 1) k_M_isTest 9 [l0] [vI (gb (s1 ≤ s0 ∧ s0 ≤ s2))] σ Q := wp_callR (d := d + 0) (as := [vL s0, vL s1, vL s2]) (rest := []) rfl rfl rfl rfl rfl rfl rfl rfl (sp_M_isIn)
theorem r_M_isTest_9 (h : s0 = 0 ∨ s0 = 1) : Wp L d k_M_isTest 9 [l0] [vI s0] σ Q ↔ Q (some (vI s0)) σ := wp_zret rfl h
theorem sp_M_isTest : Run L (d + 1) 304 [vI a0] σ (some (vI (gb (0 ≤ a0 ∧ a0 ≤ 5)))) σ := by
  refine Run_of (C' := k_M_isTest) rfl ?_
  show Wp L (d + 1) k_M_isTest 0 [vI a0] [] σ _
  simp only [r_M_isTest_0, r_M_isTest_1, r_M_isTest_2, r_M_isTest_3, r_M_isTest_6, r_M_isTest_9, Int.reduceLE, Int.reduceLT, Int.reduceEq, Int.reduceToNat, gb_01, eq_self, true_or, or_true, and_true, true_and]

theorem r_M_orNone_0 : Wp L d k_M_orNone 0 [vI a0] [] σ Q ↔ Wp L d k_M_orNone 1 [vI a0] [vI a0] σ Q := wp_iload rfl rfl
theorem r_M_orNone_1 : Wp L d k_M_orNone 1 [l0] [vI s0] σ Q ↔ (if 0 ≤ s0 then Wp L d k_M_orNone 9 [l0] [] σ Q else Wp L d k_M_orNone 4 [l0] [] σ Q) := wp_if_ge rfl
theorem r_M_orNone_4 : Wp L d k_M_orNone 4 [l0] [] σ Q ↔ Wp L d k_M_orNone 6 [l0] [vI (-1000000005)] σ Q := wp_push rfl
theorem r_M_orNone_6 : Wp L d k_M_orNone 6 [l0] [vI s0] σ Q ↔ Wp L d k_M_orNone 10 [l0] [vI s0] σ Q := wp_goto rfl
theorem r_M_orNone_9 : Wp L d k_M_orNone 9 [vI a0] [] σ Q ↔ Wp L d k_M_orNone 10 [vI a0] [vI a0] σ Q := wp_iload rfl rfl
theorem r_M_orNone_10 : Wp L d k_M_orNone 10 [l0] [vI s0] σ Q ↔ Q (some (vI s0)) σ := wp_iret rfl
theorem sp_M_orNone : Run L d 202 [vI a0] σ (some (vI (if a0 < 0 then -1000000005 else a0))) σ := by
  refine Run_of (C' := k_M_orNone) rfl ?_
  show Wp L d k_M_orNone 0 [vI a0] [] σ _
  simp only [r_M_orNone_0, r_M_orNone_1, r_M_orNone_4, r_M_orNone_6, r_M_orNone_9, r_M_orNone_10, Int.reduceLE, Int.reduceLT, Int.reduceEq, Int.reduceToNat, gb_01, eq_self, true_or, or_true, and_true, true_and]
  split
  · rw [if_neg (by omega)]
  · rw [if_pos (by omega)]

theorem r_M_least_0 : Wp L d k_M_least 0 [vI a0, l1] [] σ Q ↔ Wp L d k_M_least 1 [vI a0, l1] [vI a0] σ Q := wp_iload rfl rfl
theorem r_M_least_1 : Wp L d k_M_least 1 [l0, vI a1] [vI s0] σ Q ↔ Wp L d k_M_least 2 [l0, vI a1] [vI a1, vI s0] σ Q := wp_iload rfl rfl
theorem r_M_least_2 : Wp L d k_M_least 2 [l0, l1] [vI s1, vI s0] σ Q ↔ (if s1 ≤ s0 then Wp L d k_M_least 9 [l0, l1] [] σ Q else Wp L d k_M_least 5 [l0, l1] [] σ Q) := wp_cmp_ge rfl
theorem r_M_least_5 : Wp L d k_M_least 5 [vI a0, l1] [] σ Q ↔ Wp L d k_M_least 6 [vI a0, l1] [vI a0] σ Q := wp_iload rfl rfl
theorem r_M_least_6 : Wp L d k_M_least 6 [l0, l1] [vI s0] σ Q ↔ Wp L d k_M_least 10 [l0, l1] [vI s0] σ Q := wp_goto rfl
theorem r_M_least_9 : Wp L d k_M_least 9 [l0, vI a1] [] σ Q ↔ Wp L d k_M_least 10 [l0, vI a1] [vI a1] σ Q := wp_iload rfl rfl
theorem r_M_least_10 : Wp L d k_M_least 10 [l0, l1] [vI s0] σ Q ↔ Q (some (vI s0)) σ := wp_iret rfl
theorem sp_M_least : Run L d 267 [vI a0, vI a1] σ (some (vI (min a0 a1))) σ := by
  refine Run_of (C' := k_M_least) rfl ?_
  show Wp L d k_M_least 0 [vI a0, vI a1] [] σ _
  simp only [r_M_least_0, r_M_least_1, r_M_least_2, r_M_least_5, r_M_least_6, r_M_least_9, r_M_least_10, Int.reduceLE, Int.reduceLT, Int.reduceEq, Int.reduceToNat, gb_01, eq_self, true_or, or_true, and_true, true_and]
  split
  · rw [show min a0 a1 = a1 by omega]
  · rw [show min a0 a1 = a0 by omega]

theorem r_M_spanAt_0 : Wp L d k_M_spanAt 0 [l0, l1] [] σ Q ↔ Wp L d k_M_spanAt 2 [l0, l1] [vI 20] σ Q := wp_push rfl
theorem r_M_spanAt_2 : Wp L d k_M_spanAt 2 [l0, l1] [vI s0] σ Q ↔ Wp L d k_M_spanAt 3 [l0, l1] [vI 3, vI s0] σ Q := wp_push rfl
theorem r_M_spanAt_3 : Wp L d k_M_spanAt 3 [l0, vI a1] [vI s1, vI s0] σ Q ↔ Wp L d k_M_spanAt 4 [l0, vI a1] [vI a1, vI s1, vI s0] σ Q := wp_iload rfl rfl
theorem r_M_spanAt_4 : Wp L d k_M_spanAt 4 [l0, l1] [vI s2, vI s1, vI s0] σ Q ↔ Wp L d k_M_spanAt 5 [l0, l1] [vI (w32 (s1 * s2)), vI s0] σ Q := wp_imul rfl
theorem r_M_spanAt_5 : Wp L d k_M_spanAt 5 [l0, l1] [vI s1, vI s0] σ Q ↔ Wp L d k_M_spanAt 6 [l0, l1] [vI (w32 (s0 + s1))] σ Q := wp_iadd rfl
theorem r_M_spanAt_6 : Wp L d k_M_spanAt 6 [l0, l1] [vI s0] σ Q ↔ Q (some (vI s0)) σ := wp_iret rfl
theorem sp_M_spanAt : Run L d 193 [vR 293, vI a1] σ (some (vI (w32 (20 + w32 (3 * a1))))) σ := by
  refine Run_of (C' := k_M_spanAt) rfl ?_
  show Wp L d k_M_spanAt 0 [vR 293, vI a1] [] σ _
  simp only [r_M_spanAt_0, r_M_spanAt_2, r_M_spanAt_3, r_M_spanAt_4, r_M_spanAt_5, r_M_spanAt_6, Int.reduceLE, Int.reduceLT, Int.reduceEq, Int.reduceToNat, gb_01, eq_self, true_or, or_true, and_true, true_and]

theorem r_M_partAt_0 : Wp L d k_M_partAt 0 [l0, l1] [] σ Q ↔ Wp L d k_M_partAt 2 [l0, l1] [vI 120] σ Q := wp_push rfl
theorem r_M_partAt_2 : Wp L d k_M_partAt 2 [l0, l1] [vI s0] σ Q ↔ Wp L d k_M_partAt 4 [l0, l1] [vI 12, vI s0] σ Q := wp_push rfl
theorem r_M_partAt_4 : Wp L d k_M_partAt 4 [l0, vI a1] [vI s1, vI s0] σ Q ↔ Wp L d k_M_partAt 5 [l0, vI a1] [vI a1, vI s1, vI s0] σ Q := wp_iload rfl rfl
theorem r_M_partAt_5 : Wp L d k_M_partAt 5 [l0, l1] [vI s2, vI s1, vI s0] σ Q ↔ Wp L d k_M_partAt 6 [l0, l1] [vI (w32 (s1 * s2)), vI s0] σ Q := wp_imul rfl
theorem r_M_partAt_6 : Wp L d k_M_partAt 6 [l0, l1] [vI s1, vI s0] σ Q ↔ Wp L d k_M_partAt 7 [l0, l1] [vI (w32 (s0 + s1))] σ Q := wp_iadd rfl
theorem r_M_partAt_7 : Wp L d k_M_partAt 7 [l0, l1] [vI s0] σ Q ↔ Q (some (vI s0)) σ := wp_iret rfl
theorem sp_M_partAt : Run L d 206 [vR 293, vI a1] σ (some (vI (w32 (120 + w32 (12 * a1))))) σ := by
  refine Run_of (C' := k_M_partAt) rfl ?_
  show Wp L d k_M_partAt 0 [vR 293, vI a1] [] σ _
  simp only [r_M_partAt_0, r_M_partAt_2, r_M_partAt_4, r_M_partAt_5, r_M_partAt_6, r_M_partAt_7, Int.reduceLE, Int.reduceLT, Int.reduceEq, Int.reduceToNat, gb_01, eq_self, true_or, or_true, and_true, true_and]

theorem r_M_textAt_0 : Wp L d k_M_textAt 0 [l0, l1] [] σ Q ↔ Wp L d k_M_textAt 3 [l0, l1] [vI 930] σ Q := wp_push rfl
theorem r_M_textAt_3 : Wp L d k_M_textAt 3 [l0, l1] [vI s0] σ Q ↔ Wp L d k_M_textAt 6 [l0, l1] [vI 200, vI s0] σ Q := wp_push rfl
theorem r_M_textAt_6 : Wp L d k_M_textAt 6 [l0, vI a1] [vI s1, vI s0] σ Q ↔ Wp L d k_M_textAt 7 [l0, vI a1] [vI a1, vI s1, vI s0] σ Q := wp_iload rfl rfl
theorem r_M_textAt_7 : Wp L d k_M_textAt 7 [l0, l1] [vI s2, vI s1, vI s0] σ Q ↔ Wp L d k_M_textAt 8 [l0, l1] [vI (w32 (s1 * s2)), vI s0] σ Q := wp_imul rfl
theorem r_M_textAt_8 : Wp L d k_M_textAt 8 [l0, l1] [vI s1, vI s0] σ Q ↔ Wp L d k_M_textAt 9 [l0, l1] [vI (w32 (s0 + s1))] σ Q := wp_iadd rfl
theorem r_M_textAt_9 : Wp L d k_M_textAt 9 [l0, l1] [vI s0] σ Q ↔ Q (some (vI s0)) σ := wp_iret rfl
theorem sp_M_textAt : Run L d 240 [vR 293, vI a1] σ (some (vI (w32 (930 + w32 (200 * a1))))) σ := by
  refine Run_of (C' := k_M_textAt) rfl ?_
  show Wp L d k_M_textAt 0 [vR 293, vI a1] [] σ _
  simp only [r_M_textAt_0, r_M_textAt_3, r_M_textAt_6, r_M_textAt_7, r_M_textAt_8, r_M_textAt_9, Int.reduceLE, Int.reduceLT, Int.reduceEq, Int.reduceToNat, gb_01, eq_self, true_or, or_true, and_true, true_and]

theorem r_X_isSpan_0 : Wp L d k_X_isSpan 0 [l0, vI a1] [] σ Q ↔ Wp L d k_X_isSpan 1 [l0, vI a1] [vI a1] σ Q := wp_iload rfl rfl
theorem r_X_isSpan_1 : Wp L d k_X_isSpan 1 [l0, l1] [vI s0] σ Q ↔ Wp L d k_X_isSpan 2 [l0, l1] [vI 0, vI s0] σ Q := wp_push rfl
theorem r_X_isSpan_2 : Wp L d k_X_isSpan 2 [vR b0, l1] [vI s1, vI s0] σ Q ↔ Wp L d k_X_isSpan 3 [vR b0, l1] [vR b0, vI s1, vI s0] σ Q := wp_aload rfl rfl
theorem r_X_isSpan_3 (h : gK c2 = 0) : Wp L d k_X_isSpan 3 [l0, l1] [vR c2, vI s1, vI s0] σ Q ↔ Wp L d k_X_isSpan 6 [l0, l1] [vR (gq c2 1), vI s1, vI s0] σ Q := wp_getR (c := 129) rfl rfl rfl rfl rfl h
theorem r_X_isSpan_6 (h : gK c2 = 1) : Wp L d k_X_isSpan 6 [l0, l1] [vR c2, vI s1, vI s0] σ Q ↔ Wp L d k_X_isSpan 9 [l0, l1] [vI (σ c2 8), vI s1, vI s0] σ Q := wp_getI (c := 264) rfl rfl rfl rfl h
theorem r_X_isSpan_9 : Wp L d k_X_isSpan 9 [l0, l1] [vI s2, vI s1, vI s0] σ Q ↔ Wp L d k_X_isSpan 10 [l0, l1] [vI 1, vI s2, vI s1, vI s0] σ Q := wp_push rfl
theorem r_X_isSpan_10 : Wp L d k_X_isSpan 10 [l0, l1] [vI s3, vI s2, vI s1, vI s0] σ Q ↔ Wp L d k_X_isSpan 11 [l0, l1] [vI (w32 (s2 - s3)), vI s1, vI s0] σ Q := wp_isub rfl
theorem r_X_isSpan_11 : Wp L (d + 1) k_X_isSpan 11 [l0, l1] [vI s2, vI s1, vI s0] σ Q ↔ Wp L (d + 1) k_X_isSpan 14 [l0, l1] [vI (gb (s1 ≤ s0 ∧ s0 ≤ s2))] σ Q := wp_callR (d := d + 0) (as := [vI s0, vI s1, vI s2]) (rest := []) rfl rfl rfl rfl rfl rfl rfl rfl (sp_X_within)
theorem r_X_isSpan_14 (h : s0 = 0 ∨ s0 = 1) : Wp L d k_X_isSpan 14 [l0, l1] [vI s0] σ Q ↔ Q (some (vI s0)) σ := wp_zret rfl h
theorem sp_X_isSpan : Run L (d + 1) 17 [vR 27, vI a1] σ (some (vI (gb (0 ≤ a1 ∧ a1 ≤ w32 (σ 29 8 - 1))))) σ := by
  refine Run_of (C' := k_X_isSpan) rfl ?_
  show Wp L (d + 1) k_X_isSpan 0 [vR 27, vI a1] [] σ _
  simp only [r_X_isSpan_0, r_X_isSpan_1, r_X_isSpan_2, r_X_isSpan_3, r_X_isSpan_6, r_X_isSpan_9, r_X_isSpan_10, r_X_isSpan_11, r_X_isSpan_14, gK_27, gK_29, gK_28, gq_27_0, gq_27_1, gK_293, gq_293_0, gK_294, gN_294, Int.reduceLE, Int.reduceLT, Int.reduceEq, Int.reduceToNat, gb_01, eq_self, true_or, or_true, and_true, true_and]

theorem r_X_isPier_0 : Wp L d k_X_isPier 0 [l0, vI a1] [] σ Q ↔ Wp L d k_X_isPier 1 [l0, vI a1] [vI a1] σ Q := wp_iload rfl rfl
theorem r_X_isPier_1 : Wp L d k_X_isPier 1 [l0, l1] [vI s0] σ Q ↔ Wp L d k_X_isPier 2 [l0, l1] [vI 0, vI s0] σ Q := wp_push rfl
theorem r_X_isPier_2 : Wp L d k_X_isPier 2 [vR b0, l1] [vI s1, vI s0] σ Q ↔ Wp L d k_X_isPier 3 [vR b0, l1] [vR b0, vI s1, vI s0] σ Q := wp_aload rfl rfl
theorem r_X_isPier_3 (h : gK c2 = 0) : Wp L d k_X_isPier 3 [l0, l1] [vR c2, vI s1, vI s0] σ Q ↔ Wp L d k_X_isPier 6 [l0, l1] [vR (gq c2 1), vI s1, vI s0] σ Q := wp_getR (c := 129) rfl rfl rfl rfl rfl h
theorem r_X_isPier_6 (h : gK c2 = 1) : Wp L d k_X_isPier 6 [l0, l1] [vR c2, vI s1, vI s0] σ Q ↔ Wp L d k_X_isPier 9 [l0, l1] [vI (σ c2 8), vI s1, vI s0] σ Q := wp_getI (c := 264) rfl rfl rfl rfl h
theorem r_X_isPier_9 : Wp L (d + 1) k_X_isPier 9 [l0, l1] [vI s2, vI s1, vI s0] σ Q ↔ Wp L (d + 1) k_X_isPier 12 [l0, l1] [vI (gb (s1 ≤ s0 ∧ s0 ≤ s2))] σ Q := wp_callR (d := d + 0) (as := [vI s0, vI s1, vI s2]) (rest := []) rfl rfl rfl rfl rfl rfl rfl rfl (sp_X_within)
theorem r_X_isPier_12 (h : s0 = 0 ∨ s0 = 1) : Wp L d k_X_isPier 12 [l0, l1] [vI s0] σ Q ↔ Q (some (vI s0)) σ := wp_zret rfl h
theorem sp_X_isPier : Run L (d + 1) 22 [vR 27, vI a1] σ (some (vI (gb (0 ≤ a1 ∧ a1 ≤ σ 29 8)))) σ := by
  refine Run_of (C' := k_X_isPier) rfl ?_
  show Wp L (d + 1) k_X_isPier 0 [vR 27, vI a1] [] σ _
  simp only [r_X_isPier_0, r_X_isPier_1, r_X_isPier_2, r_X_isPier_3, r_X_isPier_6, r_X_isPier_9, r_X_isPier_12, gK_27, gK_29, gK_28, gq_27_0, gq_27_1, gK_293, gq_293_0, gK_294, gN_294, Int.reduceLE, Int.reduceLT, Int.reduceEq, Int.reduceToNat, gb_01, eq_self, true_or, or_true, and_true, true_and]

theorem r_X_isPart_0 : Wp L d k_X_isPart 0 [l0, vI a1] [] σ Q ↔ Wp L d k_X_isPart 1 [l0, vI a1] [vI a1] σ Q := wp_iload rfl rfl
theorem r_X_isPart_1 : Wp L d k_X_isPart 1 [l0, l1] [vI s0] σ Q ↔ Wp L d k_X_isPart 2 [l0, l1] [vI 0, vI s0] σ Q := wp_push rfl
theorem r_X_isPart_2 : Wp L d k_X_isPart 2 [vR b0, l1] [vI s1, vI s0] σ Q ↔ Wp L d k_X_isPart 3 [vR b0, l1] [vR b0, vI s1, vI s0] σ Q := wp_aload rfl rfl
theorem r_X_isPart_3 (h : gK c2 = 0) : Wp L d k_X_isPart 3 [l0, l1] [vR c2, vI s1, vI s0] σ Q ↔ Wp L d k_X_isPart 6 [l0, l1] [vR (gq c2 1), vI s1, vI s0] σ Q := wp_getR (c := 129) rfl rfl rfl rfl rfl h
theorem r_X_isPart_6 (h : gK c2 = 1) : Wp L d k_X_isPart 6 [l0, l1] [vR c2, vI s1, vI s0] σ Q ↔ Wp L d k_X_isPart 9 [l0, l1] [vI (σ c2 9), vI s1, vI s0] σ Q := wp_getI (c := 265) rfl rfl rfl rfl h
theorem r_X_isPart_9 : Wp L d k_X_isPart 9 [l0, l1] [vI s2, vI s1, vI s0] σ Q ↔ Wp L d k_X_isPart 10 [l0, l1] [vI 1, vI s2, vI s1, vI s0] σ Q := wp_push rfl
theorem r_X_isPart_10 : Wp L d k_X_isPart 10 [l0, l1] [vI s3, vI s2, vI s1, vI s0] σ Q ↔ Wp L d k_X_isPart 11 [l0, l1] [vI (w32 (s2 - s3)), vI s1, vI s0] σ Q := wp_isub rfl
theorem r_X_isPart_11 : Wp L (d + 1) k_X_isPart 11 [l0, l1] [vI s2, vI s1, vI s0] σ Q ↔ Wp L (d + 1) k_X_isPart 14 [l0, l1] [vI (gb (s1 ≤ s0 ∧ s0 ≤ s2))] σ Q := wp_callR (d := d + 0) (as := [vI s0, vI s1, vI s2]) (rest := []) rfl rfl rfl rfl rfl rfl rfl rfl (sp_X_within)
theorem r_X_isPart_14 (h : s0 = 0 ∨ s0 = 1) : Wp L d k_X_isPart 14 [l0, l1] [vI s0] σ Q ↔ Q (some (vI s0)) σ := wp_zret rfl h
theorem sp_X_isPart : Run L (d + 1) 25 [vR 27, vI a1] σ (some (vI (gb (0 ≤ a1 ∧ a1 ≤ w32 (σ 29 9 - 1))))) σ := by
  refine Run_of (C' := k_X_isPart) rfl ?_
  show Wp L (d + 1) k_X_isPart 0 [vR 27, vI a1] [] σ _
  simp only [r_X_isPart_0, r_X_isPart_1, r_X_isPart_2, r_X_isPart_3, r_X_isPart_6, r_X_isPart_9, r_X_isPart_10, r_X_isPart_11, r_X_isPart_14, gK_27, gK_29, gK_28, gq_27_0, gq_27_1, gK_293, gq_293_0, gK_294, gN_294, Int.reduceLE, Int.reduceLT, Int.reduceEq, Int.reduceToNat, gb_01, eq_self, true_or, or_true, and_true, true_and]

theorem r_M_isSpan_0 : Wp L d k_M_isSpan 0 [l0, vI a1] [] σ Q ↔ Wp L d k_M_isSpan 1 [l0, vI a1] [vI a1] σ Q := wp_iload rfl rfl
theorem r_M_isSpan_1 : Wp L d k_M_isSpan 1 [l0, l1] [vI s0] σ Q ↔ Wp L d k_M_isSpan 2 [l0, l1] [vL s0] σ Q := wp_i2l rfl
theorem r_M_isSpan_2 : Wp L d k_M_isSpan 2 [l0, l1] [vL s0] σ Q ↔ Wp L d k_M_isSpan 3 [l0, l1] [vL 0, vL s0] σ Q := wp_pushL rfl
theorem r_M_isSpan_3 : Wp L d k_M_isSpan 3 [vR b0, l1] [vL s1, vL s0] σ Q ↔ Wp L d k_M_isSpan 4 [vR b0, l1] [vR b0, vL s1, vL s0] σ Q := wp_aload rfl rfl
theorem r_M_isSpan_4 (h : gK c2 = 12) : Wp L d k_M_isSpan 4 [l0, l1] [vR c2, vL s1, vL s0] σ Q ↔ Wp L d k_M_isSpan 7 [l0, l1] [vR (gq c2 0), vL s1, vL s0] σ Q := wp_getR (c := 3200) rfl rfl rfl rfl rfl h
theorem r_M_isSpan_7 : Wp L d k_M_isSpan 7 [l0, l1] [vR c2, vL s1, vL s0] σ Q ↔ Wp L d k_M_isSpan 8 [l0, l1] [vI 0, vR c2, vL s1, vL s0] σ Q := wp_push rfl
theorem r_M_isSpan_8 (h : gK c2 = 100) (hx : 0 ≤ s3 ∧ s3 < gN c2) : Wp L d k_M_isSpan 8 [l0, l1] [vI s3, vR c2, vL s1, vL s0] σ Q ↔ Wp L d k_M_isSpan 9 [l0, l1] [vI (σ c2 s3.toNat), vL s1, vL s0] σ Q := wp_iald rfl h hx
theorem r_M_isSpan_9 : Wp L d k_M_isSpan 9 [l0, l1] [vI s2, vL s1, vL s0] σ Q ↔ Wp L d k_M_isSpan 10 [l0, l1] [vI 1, vI s2, vL s1, vL s0] σ Q := wp_push rfl
theorem r_M_isSpan_10 : Wp L d k_M_isSpan 10 [l0, l1] [vI s3, vI s2, vL s1, vL s0] σ Q ↔ Wp L d k_M_isSpan 11 [l0, l1] [vI (w32 (s2 - s3)), vL s1, vL s0] σ Q := wp_isub rfl
theorem r_M_isSpan_11 : Wp L d k_M_isSpan 11 [l0, l1] [vI s2, vL s1, vL s0] σ Q ↔ Wp L d k_M_isSpan 12 [l0, l1] [vL s2, vL s1, vL s0] σ Q := wp_i2l rfl
theorem r_M_isSpan_12 : Wp L (d + 1) k_M_isSpan 12 [l0, l1] [vL s2, vL s1, vL s0] σ Q ↔ Wp L (d + 1) k_M_isSpan 15 [l0, l1] [vI (gb (s1 ≤ s0 ∧ s0 ≤ s2))] σ Q := wp_callR (d := d + 0) (as := [vL s0, vL s1, vL s2]) (rest := []) rfl rfl rfl rfl rfl rfl rfl rfl (sp_M_isIn)
theorem r_M_isSpan_15 (h : s0 = 0 ∨ s0 = 1) : Wp L d k_M_isSpan 15 [l0, l1] [vI s0] σ Q ↔ Q (some (vI s0)) σ := wp_zret rfl h
theorem sp_M_isSpan : Run L (d + 1) 197 [vR 293, vI a1] σ (some (vI (gb (0 ≤ a1 ∧ a1 ≤ w32 (σ 294 0 - 1))))) σ := by
  refine Run_of (C' := k_M_isSpan) rfl ?_
  show Wp L (d + 1) k_M_isSpan 0 [vR 293, vI a1] [] σ _
  simp only [r_M_isSpan_0, r_M_isSpan_1, r_M_isSpan_2, r_M_isSpan_3, r_M_isSpan_4, r_M_isSpan_7, r_M_isSpan_8, r_M_isSpan_9, r_M_isSpan_10, r_M_isSpan_11, r_M_isSpan_12, r_M_isSpan_15, gK_27, gK_29, gK_28, gq_27_0, gq_27_1, gK_293, gq_293_0, gK_294, gN_294, Int.reduceLE, Int.reduceLT, Int.reduceEq, Int.reduceToNat, gb_01, eq_self, true_or, or_true, and_true, true_and]

theorem r_M_isPier_0 : Wp L d k_M_isPier 0 [l0, vI a1] [] σ Q ↔ Wp L d k_M_isPier 1 [l0, vI a1] [vI a1] σ Q := wp_iload rfl rfl
theorem r_M_isPier_1 : Wp L d k_M_isPier 1 [l0, l1] [vI s0] σ Q ↔ Wp L d k_M_isPier 2 [l0, l1] [vL s0] σ Q := wp_i2l rfl
theorem r_M_isPier_2 : Wp L d k_M_isPier 2 [l0, l1] [vL s0] σ Q ↔ Wp L d k_M_isPier 3 [l0, l1] [vL 0, vL s0] σ Q := wp_pushL rfl
theorem r_M_isPier_3 : Wp L d k_M_isPier 3 [vR b0, l1] [vL s1, vL s0] σ Q ↔ Wp L d k_M_isPier 4 [vR b0, l1] [vR b0, vL s1, vL s0] σ Q := wp_aload rfl rfl
theorem r_M_isPier_4 (h : gK c2 = 12) : Wp L d k_M_isPier 4 [l0, l1] [vR c2, vL s1, vL s0] σ Q ↔ Wp L d k_M_isPier 7 [l0, l1] [vR (gq c2 0), vL s1, vL s0] σ Q := wp_getR (c := 3200) rfl rfl rfl rfl rfl h
theorem r_M_isPier_7 : Wp L d k_M_isPier 7 [l0, l1] [vR c2, vL s1, vL s0] σ Q ↔ Wp L d k_M_isPier 8 [l0, l1] [vI 0, vR c2, vL s1, vL s0] σ Q := wp_push rfl
theorem r_M_isPier_8 (h : gK c2 = 100) (hx : 0 ≤ s3 ∧ s3 < gN c2) : Wp L d k_M_isPier 8 [l0, l1] [vI s3, vR c2, vL s1, vL s0] σ Q ↔ Wp L d k_M_isPier 9 [l0, l1] [vI (σ c2 s3.toNat), vL s1, vL s0] σ Q := wp_iald rfl h hx
theorem r_M_isPier_9 : Wp L d k_M_isPier 9 [l0, l1] [vI s2, vL s1, vL s0] σ Q ↔ Wp L d k_M_isPier 10 [l0, l1] [vL s2, vL s1, vL s0] σ Q := wp_i2l rfl
theorem r_M_isPier_10 : Wp L (d + 1) k_M_isPier 10 [l0, l1] [vL s2, vL s1, vL s0] σ Q ↔ Wp L (d + 1) k_M_isPier 13 [l0, l1] [vI (gb (s1 ≤ s0 ∧ s0 ≤ s2))] σ Q := wp_callR (d := d + 0) (as := [vL s0, vL s1, vL s2]) (rest := []) rfl rfl rfl rfl rfl rfl rfl rfl (sp_M_isIn)
theorem r_M_isPier_13 (h : s0 = 0 ∨ s0 = 1) : Wp L d k_M_isPier 13 [l0, l1] [vI s0] σ Q ↔ Q (some (vI s0)) σ := wp_zret rfl h
theorem sp_M_isPier : Run L (d + 1) 204 [vR 293, vI a1] σ (some (vI (gb (0 ≤ a1 ∧ a1 ≤ σ 294 0)))) σ := by
  refine Run_of (C' := k_M_isPier) rfl ?_
  show Wp L (d + 1) k_M_isPier 0 [vR 293, vI a1] [] σ _
  simp only [r_M_isPier_0, r_M_isPier_1, r_M_isPier_2, r_M_isPier_3, r_M_isPier_4, r_M_isPier_7, r_M_isPier_8, r_M_isPier_9, r_M_isPier_10, r_M_isPier_13, gK_27, gK_29, gK_28, gq_27_0, gq_27_1, gK_293, gq_293_0, gK_294, gN_294, Int.reduceLE, Int.reduceLT, Int.reduceEq, Int.reduceToNat, gb_01, eq_self, true_or, or_true, and_true, true_and]

theorem r_M_isPart_0 : Wp L d k_M_isPart 0 [l0, vI a1] [] σ Q ↔ Wp L d k_M_isPart 1 [l0, vI a1] [vI a1] σ Q := wp_iload rfl rfl
theorem r_M_isPart_1 : Wp L d k_M_isPart 1 [l0, l1] [vI s0] σ Q ↔ Wp L d k_M_isPart 2 [l0, l1] [vL s0] σ Q := wp_i2l rfl
theorem r_M_isPart_2 : Wp L d k_M_isPart 2 [l0, l1] [vL s0] σ Q ↔ Wp L d k_M_isPart 3 [l0, l1] [vL 0, vL s0] σ Q := wp_pushL rfl
theorem r_M_isPart_3 : Wp L d k_M_isPart 3 [vR b0, l1] [vL s1, vL s0] σ Q ↔ Wp L d k_M_isPart 4 [vR b0, l1] [vR b0, vL s1, vL s0] σ Q := wp_aload rfl rfl
theorem r_M_isPart_4 (h : gK c2 = 12) : Wp L d k_M_isPart 4 [l0, l1] [vR c2, vL s1, vL s0] σ Q ↔ Wp L d k_M_isPart 7 [l0, l1] [vR (gq c2 0), vL s1, vL s0] σ Q := wp_getR (c := 3200) rfl rfl rfl rfl rfl h
theorem r_M_isPart_7 : Wp L d k_M_isPart 7 [l0, l1] [vR c2, vL s1, vL s0] σ Q ↔ Wp L d k_M_isPart 8 [l0, l1] [vI 1, vR c2, vL s1, vL s0] σ Q := wp_push rfl
theorem r_M_isPart_8 (h : gK c2 = 100) (hx : 0 ≤ s3 ∧ s3 < gN c2) : Wp L d k_M_isPart 8 [l0, l1] [vI s3, vR c2, vL s1, vL s0] σ Q ↔ Wp L d k_M_isPart 9 [l0, l1] [vI (σ c2 s3.toNat), vL s1, vL s0] σ Q := wp_iald rfl h hx
theorem r_M_isPart_9 : Wp L d k_M_isPart 9 [l0, l1] [vI s2, vL s1, vL s0] σ Q ↔ Wp L d k_M_isPart 10 [l0, l1] [vI 1, vI s2, vL s1, vL s0] σ Q := wp_push rfl
theorem r_M_isPart_10 : Wp L d k_M_isPart 10 [l0, l1] [vI s3, vI s2, vL s1, vL s0] σ Q ↔ Wp L d k_M_isPart 11 [l0, l1] [vI (w32 (s2 - s3)), vL s1, vL s0] σ Q := wp_isub rfl
theorem r_M_isPart_11 : Wp L d k_M_isPart 11 [l0, l1] [vI s2, vL s1, vL s0] σ Q ↔ Wp L d k_M_isPart 12 [l0, l1] [vL s2, vL s1, vL s0] σ Q := wp_i2l rfl
theorem r_M_isPart_12 : Wp L (d + 1) k_M_isPart 12 [l0, l1] [vL s2, vL s1, vL s0] σ Q ↔ Wp L (d + 1) k_M_isPart 15 [l0, l1] [vI (gb (s1 ≤ s0 ∧ s0 ≤ s2))] σ Q := wp_callR (d := d + 0) (as := [vL s0, vL s1, vL s2]) (rest := []) rfl rfl rfl rfl rfl rfl rfl rfl (sp_M_isIn)
theorem r_M_isPart_15 (h : s0 = 0 ∨ s0 = 1) : Wp L d k_M_isPart 15 [l0, l1] [vI s0] σ Q ↔ Q (some (vI s0)) σ := wp_zret rfl h
theorem sp_M_isPart : Run L (d + 1) 209 [vR 293, vI a1] σ (some (vI (gb (0 ≤ a1 ∧ a1 ≤ w32 (σ 294 1 - 1))))) σ := by
  refine Run_of (C' := k_M_isPart) rfl ?_
  show Wp L (d + 1) k_M_isPart 0 [vR 293, vI a1] [] σ _
  simp only [r_M_isPart_0, r_M_isPart_1, r_M_isPart_2, r_M_isPart_3, r_M_isPart_4, r_M_isPart_7, r_M_isPart_8, r_M_isPart_9, r_M_isPart_10, r_M_isPart_11, r_M_isPart_12, r_M_isPart_15, gK_27, gK_29, gK_28, gq_27_0, gq_27_1, gK_293, gq_293_0, gK_294, gN_294, Int.reduceLE, Int.reduceLT, Int.reduceEq, Int.reduceToNat, gb_01, eq_self, true_or, or_true, and_true, true_and]

theorem r_M_isText_0 : Wp L d k_M_isText 0 [l0, vI a1] [] σ Q ↔ Wp L d k_M_isText 1 [l0, vI a1] [vI a1] σ Q := wp_iload rfl rfl
theorem r_M_isText_1 : Wp L d k_M_isText 1 [l0, l1] [vI s0] σ Q ↔ Wp L d k_M_isText 2 [l0, l1] [vL s0] σ Q := wp_i2l rfl
theorem r_M_isText_2 : Wp L d k_M_isText 2 [l0, l1] [vL s0] σ Q ↔ Wp L d k_M_isText 3 [l0, l1] [vL 0, vL s0] σ Q := wp_pushL rfl
theorem r_M_isText_3 : Wp L d k_M_isText 3 [vR b0, l1] [vL s1, vL s0] σ Q ↔ Wp L d k_M_isText 4 [vR b0, l1] [vR b0, vL s1, vL s0] σ Q := wp_aload rfl rfl
theorem r_M_isText_4 (h : gK c2 = 12) : Wp L d k_M_isText 4 [l0, l1] [vR c2, vL s1, vL s0] σ Q ↔ Wp L d k_M_isText 7 [l0, l1] [vR (gq c2 0), vL s1, vL s0] σ Q := wp_getR (c := 3200) rfl rfl rfl rfl rfl h
theorem r_M_isText_7 : Wp L d k_M_isText 7 [l0, l1] [vR c2, vL s1, vL s0] σ Q ↔ Wp L d k_M_isText 8 [l0, l1] [vI 2, vR c2, vL s1, vL s0] σ Q := wp_push rfl
theorem r_M_isText_8 (h : gK c2 = 100) (hx : 0 ≤ s3 ∧ s3 < gN c2) : Wp L d k_M_isText 8 [l0, l1] [vI s3, vR c2, vL s1, vL s0] σ Q ↔ Wp L d k_M_isText 9 [l0, l1] [vI (σ c2 s3.toNat), vL s1, vL s0] σ Q := wp_iald rfl h hx
theorem r_M_isText_9 : Wp L d k_M_isText 9 [l0, l1] [vI s2, vL s1, vL s0] σ Q ↔ Wp L d k_M_isText 10 [l0, l1] [vI 1, vI s2, vL s1, vL s0] σ Q := wp_push rfl
theorem r_M_isText_10 : Wp L d k_M_isText 10 [l0, l1] [vI s3, vI s2, vL s1, vL s0] σ Q ↔ Wp L d k_M_isText 11 [l0, l1] [vI (w32 (s2 - s3)), vL s1, vL s0] σ Q := wp_isub rfl
theorem r_M_isText_11 : Wp L d k_M_isText 11 [l0, l1] [vI s2, vL s1, vL s0] σ Q ↔ Wp L d k_M_isText 12 [l0, l1] [vL s2, vL s1, vL s0] σ Q := wp_i2l rfl
theorem r_M_isText_12 : Wp L (d + 1) k_M_isText 12 [l0, l1] [vL s2, vL s1, vL s0] σ Q ↔ Wp L (d + 1) k_M_isText 15 [l0, l1] [vI (gb (s1 ≤ s0 ∧ s0 ≤ s2))] σ Q := wp_callR (d := d + 0) (as := [vL s0, vL s1, vL s2]) (rest := []) rfl rfl rfl rfl rfl rfl rfl rfl (sp_M_isIn)
theorem r_M_isText_15 (h : s0 = 0 ∨ s0 = 1) : Wp L d k_M_isText 15 [l0, l1] [vI s0] σ Q ↔ Q (some (vI s0)) σ := wp_zret rfl h
theorem sp_M_isText : Run L (d + 1) 257 [vR 293, vI a1] σ (some (vI (gb (0 ≤ a1 ∧ a1 ≤ w32 (σ 294 2 - 1))))) σ := by
  refine Run_of (C' := k_M_isText) rfl ?_
  show Wp L (d + 1) k_M_isText 0 [vR 293, vI a1] [] σ _
  simp only [r_M_isText_0, r_M_isText_1, r_M_isText_2, r_M_isText_3, r_M_isText_4, r_M_isText_7, r_M_isText_8, r_M_isText_9, r_M_isText_10, r_M_isText_11, r_M_isText_12, r_M_isText_15, gK_27, gK_29, gK_28, gq_27_0, gq_27_1, gK_293, gq_293_0, gK_294, gN_294, Int.reduceLE, Int.reduceLT, Int.reduceEq, Int.reduceToNat, gb_01, eq_self, true_or, or_true, and_true, true_and]
