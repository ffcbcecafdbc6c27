theorem bI_1 {c : Prop} [Decidable c] : bI c = 1 ↔ c := by unfold bI; split <;> simp [*]
theorem bI_0 {c : Prop} [Decidable c] : bI c = 0 ↔ ¬ c := by unfold bI; split <;> simp [*]
theorem bit_and (a h : Nat) : iI ((a / 2 ^ h : Nat) : Int) &&& iI 1 = iI (bI (a.testBit h = true)) := by
  rw [show (1 : Int) = ((1 : Nat) : Int) from rfl, iI_and, bit_1]
theorem bI_rg {c : Prop} [Decidable c] : -2147483648 ≤ bI c ∧ bI c < 2147483648 := by have := bI_b c; omega
theorem bI_rg1 {c : Prop} [Decidable c] : -2147483648 ≤ bI c ∧ bI c < 2147483648 ∧ -2147483648 ≤ (1 : Int) ∧ (1 : Int) < 2147483648 := by have := bI_b c; omega
theorem bI_rg2 {c d : Prop} [Decidable c] [Decidable d] : -2147483648 ≤ bI c ∧ bI c < 2147483648 ∧ -2147483648 ≤ bI d ∧ bI d < 2147483648 := by have := bI_b c; have := bI_b d; omega
theorem d_L_isBookSo_0 : Dc cL_isBookSo 0 1 1 (.aload_n 0) := ⟨by decide +kernel, rfl⟩
theorem d_L_isBookSo_1 : Dc cL_isBookSo 1 1 2 (.iload_n 1) := ⟨by decide +kernel, rfl⟩
theorem d_L_isBookSo_2 : Dc cL_isBookSo 2 1 3 (.iconst 3) := ⟨by decide +kernel, rfl⟩
theorem d_L_isBookSo_3 : Dc cL_isBookSo 3 3 6 (.invokevirtual 47) := ⟨by decide +kernel, rfl⟩
theorem d_L_isBookSo_6 : Dc cL_isBookSo 6 1 7 (.istore_n 2) := ⟨by decide +kernel, rfl⟩
theorem d_L_isBookSo_7 : Dc cL_isBookSo 7 1 8 (.iconst 0) := ⟨by decide +kernel, rfl⟩
theorem d_L_isBookSo_8 : Dc cL_isBookSo 8 1 9 (.istore_n 3) := ⟨by decide +kernel, rfl⟩
theorem d_L_isBookSo_9 : Dc cL_isBookSo 9 1 10 (.iload_n 2) := ⟨by decide +kernel, rfl⟩
theorem d_L_isBookSo_10 : Dj cL_isBookSo 10 13 55 (.ifCond .lt) := ⟨45, by decide +kernel, rfl, by decide⟩
theorem d_L_isBookSo_13 : Dc cL_isBookSo 13 1 14 (.iload_n 2) := ⟨by decide +kernel, rfl⟩
theorem d_L_isBookSo_14 : Dc cL_isBookSo 14 2 16 (.bipush 16) := ⟨by decide +kernel, rfl⟩
theorem d_L_isBookSo_16 : Dj cL_isBookSo 16 19 55 (.if_icmp .gt) := ⟨39, by decide +kernel, rfl, by decide⟩
theorem d_L_isBookSo_19 : Dc cL_isBookSo 19 1 20 (.aload_n 0) := ⟨by decide +kernel, rfl⟩
theorem d_L_isBookSo_20 : Dc cL_isBookSo 20 1 21 (.iload_n 1) := ⟨by decide +kernel, rfl⟩
theorem d_L_isBookSo_21 : Dc cL_isBookSo 21 1 22 (.iload_n 2) := ⟨by decide +kernel, rfl⟩
theorem d_L_isBookSo_22 : Dc cL_isBookSo 22 1 23 (.iconst 0) := ⟨by decide +kernel, rfl⟩
theorem d_L_isBookSo_23 : Dc cL_isBookSo 23 3 26 (.invokevirtual 50) := ⟨by decide +kernel, rfl⟩
theorem d_L_isBookSo_26 : Dc cL_isBookSo 26 1 27 (.iconst (-1)) := ⟨by decide +kernel, rfl⟩
theorem d_L_isBookSo_27 : Dj cL_isBookSo 27 30 55 (.if_icmp .ne) := ⟨28, by decide +kernel, rfl, by decide⟩
theorem d_L_isBookSo_30 : Dc cL_isBookSo 30 1 31 (.aload_n 0) := ⟨by decide +kernel, rfl⟩
theorem d_L_isBookSo_31 : Dc cL_isBookSo 31 1 32 (.iload_n 1) := ⟨by decide +kernel, rfl⟩
theorem d_L_isBookSo_32 : Dc cL_isBookSo 32 2 34 (.bipush 7) := ⟨by decide +kernel, rfl⟩
theorem d_L_isBookSo_34 : Dc cL_isBookSo 34 3 37 (.invokevirtual 47) := ⟨by decide +kernel, rfl⟩
theorem d_L_isBookSo_37 : Dj cL_isBookSo 37 40 55 (.ifCond .le) := ⟨18, by decide +kernel, rfl, by decide⟩
theorem d_L_isBookSo_40 : Dc cL_isBookSo 40 1 41 (.aload_n 0) := ⟨by decide +kernel, rfl⟩
theorem d_L_isBookSo_41 : Dc cL_isBookSo 41 1 42 (.iload_n 1) := ⟨by decide +kernel, rfl⟩
theorem d_L_isBookSo_42 : Dc cL_isBookSo 42 1 43 (.iconst 5) := ⟨by decide +kernel, rfl⟩
theorem d_L_isBookSo_43 : Dc cL_isBookSo 43 3 46 (.invokevirtual 47) := ⟨by decide +kernel, rfl⟩
theorem d_L_isBookSo_46 : Dc cL_isBookSo 46 2 48 (.bipush 60) := ⟨by decide +kernel, rfl⟩
theorem d_L_isBookSo_48 : Dj cL_isBookSo 48 51 55 (.if_icmp .gt) := ⟨7, by decide +kernel, rfl, by decide⟩
theorem d_L_isBookSo_51 : Dc cL_isBookSo 51 1 52 (.iconst 1) := ⟨by decide +kernel, rfl⟩
theorem d_L_isBookSo_52 : Dj cL_isBookSo 52 55 56 .goto := ⟨4, by decide +kernel, rfl, by decide⟩
theorem d_L_isBookSo_55 : Dc cL_isBookSo 55 1 56 (.iconst 0) := ⟨by decide +kernel, rfl⟩
theorem d_L_isBookSo_56 : Dc cL_isBookSo 56 2 58 (.istore 4) := ⟨by decide +kernel, rfl⟩
theorem d_L_isBookSo_58 : Dc cL_isBookSo 58 1 59 (.iconst 0) := ⟨by decide +kernel, rfl⟩
theorem d_L_isBookSo_59 : Dc cL_isBookSo 59 2 61 (.istore 5) := ⟨by decide +kernel, rfl⟩
theorem d_L_isBookSo_61 : Dc cL_isBookSo 61 2 63 (.iload 5) := ⟨by decide +kernel, rfl⟩
theorem d_L_isBookSo_63 : Dc cL_isBookSo 63 1 64 (.iload_n 2) := ⟨by decide +kernel, rfl⟩
theorem d_L_isBookSo_64 : Dj cL_isBookSo 64 67 309 (.if_icmp .ge) := ⟨245, by decide +kernel, rfl, by decide⟩
theorem d_L_isBookSo_67 : Dc cL_isBookSo 67 1 68 (.aload_n 0) := ⟨by decide +kernel, rfl⟩
theorem d_L_isBookSo_68 : Dc cL_isBookSo 68 1 69 (.iload_n 1) := ⟨by decide +kernel, rfl⟩
theorem d_L_isBookSo_69 : Dc cL_isBookSo 69 2 71 (.iload 5) := ⟨by decide +kernel, rfl⟩
theorem d_L_isBookSo_71 : Dc cL_isBookSo 71 1 72 (.iconst 2) := ⟨by decide +kernel, rfl⟩
theorem d_L_isBookSo_72 : Dc cL_isBookSo 72 3 75 (.invokevirtual 50) := ⟨by decide +kernel, rfl⟩
theorem d_L_isBookSo_75 : Dc cL_isBookSo 75 1 76 (.iconst 1) := ⟨by decide +kernel, rfl⟩
theorem d_L_isBookSo_76 : Dj cL_isBookSo 76 79 83 (.if_icmp .ne) := ⟨7, by decide +kernel, rfl, by decide⟩
theorem d_L_isBookSo_79 : Dc cL_isBookSo 79 1 80 (.iconst 1) := ⟨by decide +kernel, rfl⟩
theorem d_L_isBookSo_80 : Dj cL_isBookSo 80 83 84 .goto := ⟨4, by decide +kernel, rfl, by decide⟩
theorem d_L_isBookSo_83 : Dc cL_isBookSo 83 1 84 (.iconst 0) := ⟨by decide +kernel, rfl⟩
theorem d_L_isBookSo_84 : Dc cL_isBookSo 84 2 86 (.istore 6) := ⟨by decide +kernel, rfl⟩
theorem d_L_isBookSo_86 : Dc cL_isBookSo 86 1 87 (.iload_n 3) := ⟨by decide +kernel, rfl⟩
theorem d_L_isBookSo_87 : Dc cL_isBookSo 87 1 88 (.aload_n 0) := ⟨by decide +kernel, rfl⟩
theorem d_L_isBookSo_88 : Dc cL_isBookSo 88 1 89 (.iload_n 1) := ⟨by decide +kernel, rfl⟩
theorem d_L_isBookSo_89 : Dc cL_isBookSo 89 2 91 (.iload 5) := ⟨by decide +kernel, rfl⟩
theorem d_L_isBookSo_91 : Dc cL_isBookSo 91 1 92 (.iconst 3) := ⟨by decide +kernel, rfl⟩
theorem d_L_isBookSo_92 : Dc cL_isBookSo 92 3 95 (.invokevirtual 50) := ⟨by decide +kernel, rfl⟩
theorem d_L_isBookSo_95 : Dc cL_isBookSo 95 1 96 .iadd := ⟨by decide +kernel, rfl⟩
theorem d_L_isBookSo_96 : Dc cL_isBookSo 96 1 97 (.istore_n 3) := ⟨by decide +kernel, rfl⟩
theorem d_L_isBookSo_97 : Dc cL_isBookSo 97 2 99 (.iload 4) := ⟨by decide +kernel, rfl⟩
theorem d_L_isBookSo_99 : Dj cL_isBookSo 99 102 161 (.ifCond .eq) := ⟨62, by decide +kernel, rfl, by decide⟩
theorem d_L_isBookSo_102 : Dc cL_isBookSo 102 1 103 (.aload_n 0) := ⟨by decide +kernel, rfl⟩
theorem d_L_isBookSo_103 : Dc cL_isBookSo 103 1 104 (.iload_n 1) := ⟨by decide +kernel, rfl⟩
theorem d_L_isBookSo_104 : Dc cL_isBookSo 104 2 106 (.iload 5) := ⟨by decide +kernel, rfl⟩
theorem d_L_isBookSo_106 : Dc cL_isBookSo 106 1 107 (.iconst 0) := ⟨by decide +kernel, rfl⟩
theorem d_L_isBookSo_107 : Dc cL_isBookSo 107 3 110 (.invokevirtual 50) := ⟨by decide +kernel, rfl⟩
theorem d_L_isBookSo_110 : Dc cL_isBookSo 110 1 111 (.aload_n 0) := ⟨by decide +kernel, rfl⟩
theorem d_L_isBookSo_111 : Dc cL_isBookSo 111 1 112 (.iconst 0) := ⟨by decide +kernel, rfl⟩
theorem d_L_isBookSo_112 : Dc cL_isBookSo 112 3 115 (.invokevirtual 14) := ⟨by decide +kernel, rfl⟩
theorem d_L_isBookSo_115 : Dj cL_isBookSo 115 118 161 (.if_icmp .gt) := ⟨46, by decide +kernel, rfl, by decide⟩
theorem d_L_isBookSo_118 : Dc cL_isBookSo 118 1 119 (.aload_n 0) := ⟨by decide +kernel, rfl⟩
theorem d_L_isBookSo_119 : Dc cL_isBookSo 119 1 120 (.iload_n 1) := ⟨by decide +kernel, rfl⟩
theorem d_L_isBookSo_120 : Dc cL_isBookSo 120 2 122 (.iload 5) := ⟨by decide +kernel, rfl⟩
theorem d_L_isBookSo_122 : Dc cL_isBookSo 122 1 123 (.iconst 4) := ⟨by decide +kernel, rfl⟩
theorem d_L_isBookSo_123 : Dc cL_isBookSo 123 3 126 (.invokevirtual 50) := ⟨by decide +kernel, rfl⟩
theorem d_L_isBookSo_126 : Dc cL_isBookSo 126 2 128 (.iload 5) := ⟨by decide +kernel, rfl⟩
theorem d_L_isBookSo_128 : Dc cL_isBookSo 128 1 129 (.iconst 4) := ⟨by decide +kernel, rfl⟩
theorem d_L_isBookSo_129 : Dc cL_isBookSo 129 1 130 .idiv := ⟨by decide +kernel, rfl⟩
theorem d_L_isBookSo_130 : Dj cL_isBookSo 130 133 161 (.if_icmp .ne) := ⟨31, by decide +kernel, rfl, by decide⟩
theorem d_L_isBookSo_133 : Dc cL_isBookSo 133 1 134 (.aload_n 0) := ⟨by decide +kernel, rfl⟩
theorem d_L_isBookSo_134 : Dc cL_isBookSo 134 1 135 (.iload_n 1) := ⟨by decide +kernel, rfl⟩
theorem d_L_isBookSo_135 : Dc cL_isBookSo 135 2 137 (.iload 5) := ⟨by decide +kernel, rfl⟩
theorem d_L_isBookSo_137 : Dc cL_isBookSo 137 1 138 (.iconst 1) := ⟨by decide +kernel, rfl⟩
theorem d_L_isBookSo_138 : Dc cL_isBookSo 138 3 141 (.invokevirtual 50) := ⟨by decide +kernel, rfl⟩
theorem d_L_isBookSo_141 : Dj cL_isBookSo 141 144 161 (.ifCond .lt) := ⟨20, by decide +kernel, rfl, by decide⟩
theorem d_L_isBookSo_144 : Dc cL_isBookSo 144 1 145 (.aload_n 0) := ⟨by decide +kernel, rfl⟩
theorem d_L_isBookSo_145 : Dc cL_isBookSo 145 1 146 (.iload_n 1) := ⟨by decide +kernel, rfl⟩
theorem d_L_isBookSo_146 : Dc cL_isBookSo 146 2 148 (.iload 5) := ⟨by decide +kernel, rfl⟩
theorem d_L_isBookSo_148 : Dc cL_isBookSo 148 1 149 (.iconst 1) := ⟨by decide +kernel, rfl⟩
theorem d_L_isBookSo_149 : Dc cL_isBookSo 149 3 152 (.invokevirtual 50) := ⟨by decide +kernel, rfl⟩
theorem d_L_isBookSo_152 : Dc cL_isBookSo 152 2 154 (.bipush 6) := ⟨by decide +kernel, rfl⟩
theorem d_L_isBookSo_154 : Dj cL_isBookSo 154 157 161 (.if_icmp .ge) := ⟨7, by decide +kernel, rfl, by decide⟩
theorem d_L_isBookSo_157 : Dc cL_isBookSo 157 1 158 (.iconst 1) := ⟨by decide +kernel, rfl⟩
theorem d_L_isBookSo_158 : Dj cL_isBookSo 158 161 162 .goto := ⟨4, by decide +kernel, rfl, by decide⟩
theorem d_L_isBookSo_161 : Dc cL_isBookSo 161 1 162 (.iconst 0) := ⟨by decide +kernel, rfl⟩
theorem d_L_isBookSo_162 : Dc cL_isBookSo 162 2 164 (.istore 4) := ⟨by decide +kernel, rfl⟩
theorem d_L_isBookSo_164 : Dc cL_isBookSo 164 2 166 (.iload 5) := ⟨by decide +kernel, rfl⟩
theorem d_L_isBookSo_166 : Dj cL_isBookSo 166 169 303 (.ifCond .le) := ⟨137, by decide +kernel, rfl, by decide⟩
theorem d_L_isBookSo_169 : Dc cL_isBookSo 169 1 170 (.aload_n 0) := ⟨by decide +kernel, rfl⟩
theorem d_L_isBookSo_170 : Dc cL_isBookSo 170 1 171 (.iload_n 1) := ⟨by decide +kernel, rfl⟩
theorem d_L_isBookSo_171 : Dc cL_isBookSo 171 2 173 (.iload 5) := ⟨by decide +kernel, rfl⟩
theorem d_L_isBookSo_173 : Dc cL_isBookSo 173 1 174 (.iconst 1) := ⟨by decide +kernel, rfl⟩
theorem d_L_isBookSo_174 : Dc cL_isBookSo 174 1 175 .isub := ⟨by decide +kernel, rfl⟩
theorem d_L_isBookSo_175 : Dc cL_isBookSo 175 1 176 (.iconst 2) := ⟨by decide +kernel, rfl⟩
theorem d_L_isBookSo_176 : Dc cL_isBookSo 176 3 179 (.invokevirtual 50) := ⟨by decide +kernel, rfl⟩
theorem d_L_isBookSo_179 : Dc cL_isBookSo 179 1 180 (.iconst 1) := ⟨by decide +kernel, rfl⟩
theorem d_L_isBookSo_180 : Dj cL_isBookSo 180 183 187 (.if_icmp .ne) := ⟨7, by decide +kernel, rfl, by decide⟩
theorem d_L_isBookSo_183 : Dc cL_isBookSo 183 1 184 (.iconst 1) := ⟨by decide +kernel, rfl⟩
theorem d_L_isBookSo_184 : Dj cL_isBookSo 184 187 188 .goto := ⟨4, by decide +kernel, rfl, by decide⟩
theorem d_L_isBookSo_187 : Dc cL_isBookSo 187 1 188 (.iconst 0) := ⟨by decide +kernel, rfl⟩
theorem d_L_isBookSo_188 : Dc cL_isBookSo 188 2 190 (.istore 7) := ⟨by decide +kernel, rfl⟩
theorem d_L_isBookSo_190 : Dc cL_isBookSo 190 1 191 (.aload_n 0) := ⟨by decide +kernel, rfl⟩
theorem d_L_isBookSo_191 : Dc cL_isBookSo 191 1 192 (.iload_n 1) := ⟨by decide +kernel, rfl⟩
theorem d_L_isBookSo_192 : Dc cL_isBookSo 192 2 194 (.iload 5) := ⟨by decide +kernel, rfl⟩
theorem d_L_isBookSo_194 : Dc cL_isBookSo 194 1 195 (.iconst 1) := ⟨by decide +kernel, rfl⟩
theorem d_L_isBookSo_195 : Dc cL_isBookSo 195 3 198 (.invokevirtual 50) := ⟨by decide +kernel, rfl⟩
theorem d_L_isBookSo_198 : Dc cL_isBookSo 198 1 199 (.aload_n 0) := ⟨by decide +kernel, rfl⟩
theorem d_L_isBookSo_199 : Dc cL_isBookSo 199 1 200 (.iload_n 1) := ⟨by decide +kernel, rfl⟩
theorem d_L_isBookSo_200 : Dc cL_isBookSo 200 2 202 (.iload 5) := ⟨by decide +kernel, rfl⟩
theorem d_L_isBookSo_202 : Dc cL_isBookSo 202 1 203 (.iconst 1) := ⟨by decide +kernel, rfl⟩
theorem d_L_isBookSo_203 : Dc cL_isBookSo 203 1 204 .isub := ⟨by decide +kernel, rfl⟩
theorem d_L_isBookSo_204 : Dc cL_isBookSo 204 1 205 (.iconst 1) := ⟨by decide +kernel, rfl⟩
theorem d_L_isBookSo_205 : Dc cL_isBookSo 205 3 208 (.invokevirtual 50) := ⟨by decide +kernel, rfl⟩
theorem d_L_isBookSo_208 : Dj cL_isBookSo 208 211 215 (.if_icmp .ne) := ⟨7, by decide +kernel, rfl, by decide⟩
theorem d_L_isBookSo_211 : Dc cL_isBookSo 211 1 212 (.iconst 1) := ⟨by decide +kernel, rfl⟩
theorem d_L_isBookSo_212 : Dj cL_isBookSo 212 215 216 .goto := ⟨4, by decide +kernel, rfl, by decide⟩
theorem d_L_isBookSo_215 : Dc cL_isBookSo 215 1 216 (.iconst 0) := ⟨by decide +kernel, rfl⟩
theorem d_L_isBookSo_216 : Dc cL_isBookSo 216 2 218 (.istore 8) := ⟨by decide +kernel, rfl⟩
theorem d_L_isBookSo_218 : Dc cL_isBookSo 218 2 220 (.iload 4) := ⟨by decide +kernel, rfl⟩
theorem d_L_isBookSo_220 : Dj cL_isBookSo 220 223 300 (.ifCond .eq) := ⟨80, by decide +kernel, rfl, by decide⟩
theorem d_L_isBookSo_223 : Dc cL_isBookSo 223 1 224 (.aload_n 0) := ⟨by decide +kernel, rfl⟩
theorem d_L_isBookSo_224 : Dc cL_isBookSo 224 1 225 (.iload_n 1) := ⟨by decide +kernel, rfl⟩
theorem d_L_isBookSo_225 : Dc cL_isBookSo 225 2 227 (.iload 5) := ⟨by decide +kernel, rfl⟩
theorem d_L_isBookSo_227 : Dc cL_isBookSo 227 1 228 (.iconst 0) := ⟨by decide +kernel, rfl⟩
theorem d_L_isBookSo_228 : Dc cL_isBookSo 228 3 231 (.invokevirtual 50) := ⟨by decide +kernel, rfl⟩
theorem d_L_isBookSo_231 : Dc cL_isBookSo 231 1 232 (.aload_n 0) := ⟨by decide +kernel, rfl⟩
theorem d_L_isBookSo_232 : Dc cL_isBookSo 232 1 233 (.iload_n 1) := ⟨by decide +kernel, rfl⟩
theorem d_L_isBookSo_233 : Dc cL_isBookSo 233 2 235 (.iload 5) := ⟨by decide +kernel, rfl⟩
theorem d_L_isBookSo_235 : Dc cL_isBookSo 235 1 236 (.iconst 1) := ⟨by decide +kernel, rfl⟩
theorem d_L_isBookSo_236 : Dc cL_isBookSo 236 1 237 .isub := ⟨by decide +kernel, rfl⟩
theorem d_L_isBookSo_237 : Dc cL_isBookSo 237 1 238 (.iconst 0) := ⟨by decide +kernel, rfl⟩
theorem d_L_isBookSo_238 : Dc cL_isBookSo 238 3 241 (.invokevirtual 50) := ⟨by decide +kernel, rfl⟩
theorem d_L_isBookSo_241 : Dj cL_isBookSo 241 244 300 (.if_icmp .lt) := ⟨59, by decide +kernel, rfl, by decide⟩
theorem d_L_isBookSo_244 : Dc cL_isBookSo 244 1 245 (.aload_n 0) := ⟨by decide +kernel, rfl⟩
theorem d_L_isBookSo_245 : Dc cL_isBookSo 245 1 246 (.iload_n 1) := ⟨by decide +kernel, rfl⟩
theorem d_L_isBookSo_246 : Dc cL_isBookSo 246 2 248 (.iload 5) := ⟨by decide +kernel, rfl⟩
theorem d_L_isBookSo_248 : Dc cL_isBookSo 248 1 249 (.iconst 3) := ⟨by decide +kernel, rfl⟩
theorem d_L_isBookSo_249 : Dc cL_isBookSo 249 3 252 (.invokevirtual 50) := ⟨by decide +kernel, rfl⟩
theorem d_L_isBookSo_252 : Dj cL_isBookSo 252 255 259 (.ifCond .ne) := ⟨7, by decide +kernel, rfl, by decide⟩
theorem d_L_isBookSo_255 : Dc cL_isBookSo 255 1 256 (.iconst 1) := ⟨by decide +kernel, rfl⟩
theorem d_L_isBookSo_256 : Dj cL_isBookSo 256 259 260 .goto := ⟨4, by decide +kernel, rfl, by decide⟩
theorem d_L_isBookSo_259 : Dc cL_isBookSo 259 1 260 (.iconst 0) := ⟨by decide +kernel, rfl⟩
theorem d_L_isBookSo_260 : Dc cL_isBookSo 260 2 262 (.iload 6) := ⟨by decide +kernel, rfl⟩
theorem d_L_isBookSo_262 : Dj cL_isBookSo 262 265 278 (.ifCond .eq) := ⟨16, by decide +kernel, rfl, by decide⟩
theorem d_L_isBookSo_265 : Dc cL_isBookSo 265 2 267 (.iload 7) := ⟨by decide +kernel, rfl⟩
theorem d_L_isBookSo_267 : Dj cL_isBookSo 267 270 274 (.ifCond .ne) := ⟨7, by decide +kernel, rfl, by decide⟩
theorem d_L_isBookSo_270 : Dc cL_isBookSo 270 1 271 (.iconst 1) := ⟨by decide +kernel, rfl⟩
theorem d_L_isBookSo_271 : Dj cL_isBookSo 271 274 293 .goto := ⟨22, by decide +kernel, rfl, by decide⟩
theorem d_L_isBookSo_274 : Dc cL_isBookSo 274 1 275 (.iconst 0) := ⟨by decide +kernel, rfl⟩
theorem d_L_isBookSo_275 : Dj cL_isBookSo 275 278 293 .goto := ⟨18, by decide +kernel, rfl, by decide⟩
theorem d_L_isBookSo_278 : Dc cL_isBookSo 278 2 280 (.iload 7) := ⟨by decide +kernel, rfl⟩
theorem d_L_isBookSo_280 : Dj cL_isBookSo 280 283 292 (.ifCond .eq) := ⟨12, by decide +kernel, rfl, by decide⟩
theorem d_L_isBookSo_283 : Dc cL_isBookSo 283 2 285 (.iload 8) := ⟨by decide +kernel, rfl⟩
theorem d_L_isBookSo_285 : Dj cL_isBookSo 285 288 292 (.ifCond .eq) := ⟨7, by decide +kernel, rfl, by decide⟩
theorem d_L_isBookSo_288 : Dc cL_isBookSo 288 1 289 (.iconst 1) := ⟨by decide +kernel, rfl⟩
theorem d_L_isBookSo_289 : Dj cL_isBookSo 289 292 293 .goto := ⟨4, by decide +kernel, rfl, by decide⟩
theorem d_L_isBookSo_292 : Dc cL_isBookSo 292 1 293 (.iconst 0) := ⟨by decide +kernel, rfl⟩
theorem d_L_isBookSo_293 : Dj cL_isBookSo 293 296 300 (.if_icmp .ne) := ⟨7, by decide +kernel, rfl, by decide⟩
theorem d_L_isBookSo_296 : Dc cL_isBookSo 296 1 297 (.iconst 1) := ⟨by decide +kernel, rfl⟩
theorem d_L_isBookSo_297 : Dj cL_isBookSo 297 300 301 .goto := ⟨4, by decide +kernel, rfl, by decide⟩
theorem d_L_isBookSo_300 : Dc cL_isBookSo 300 1 301 (.iconst 0) := ⟨by decide +kernel, rfl⟩
theorem d_L_isBookSo_301 : Dc cL_isBookSo 301 2 303 (.istore 4) := ⟨by decide +kernel, rfl⟩
theorem d_L_isBookSo_303 : Dc cL_isBookSo 303 3 306 (.iinc 5 1) := ⟨by decide +kernel, rfl⟩
theorem d_L_isBookSo_306 : Dj cL_isBookSo 306 309 61 .goto := ⟨(-245), by decide +kernel, rfl, by decide⟩
theorem d_L_isBookSo_309 : Dc cL_isBookSo 309 1 310 (.iload_n 2) := ⟨by decide +kernel, rfl⟩
theorem d_L_isBookSo_310 : Dj cL_isBookSo 310 313 322 (.ifCond .ne) := ⟨12, by decide +kernel, rfl, by decide⟩
theorem d_L_isBookSo_313 : Dc cL_isBookSo 313 1 314 (.aload_n 0) := ⟨by decide +kernel, rfl⟩
theorem d_L_isBookSo_314 : Dc cL_isBookSo 314 1 315 (.iload_n 1) := ⟨by decide +kernel, rfl⟩
theorem d_L_isBookSo_315 : Dc cL_isBookSo 315 1 316 (.iconst 2) := ⟨by decide +kernel, rfl⟩
theorem d_L_isBookSo_316 : Dc cL_isBookSo 316 3 319 (.invokevirtual 47) := ⟨by decide +kernel, rfl⟩
theorem d_L_isBookSo_319 : Dj cL_isBookSo 319 322 349 .goto := ⟨30, by decide +kernel, rfl, by decide⟩
theorem d_L_isBookSo_322 : Dc cL_isBookSo 322 1 323 (.aload_n 0) := ⟨by decide +kernel, rfl⟩
theorem d_L_isBookSo_323 : Dc cL_isBookSo 323 1 324 (.iload_n 1) := ⟨by decide +kernel, rfl⟩
theorem d_L_isBookSo_324 : Dc cL_isBookSo 324 1 325 (.iload_n 2) := ⟨by decide +kernel, rfl⟩
theorem d_L_isBookSo_325 : Dc cL_isBookSo 325 1 326 (.iconst 1) := ⟨by decide +kernel, rfl⟩
theorem d_L_isBookSo_326 : Dc cL_isBookSo 326 1 327 .isub := ⟨by decide +kernel, rfl⟩
theorem d_L_isBookSo_327 : Dc cL_isBookSo 327 1 328 (.iconst 2) := ⟨by decide +kernel, rfl⟩
theorem d_L_isBookSo_328 : Dc cL_isBookSo 328 3 331 (.invokevirtual 50) := ⟨by decide +kernel, rfl⟩
theorem d_L_isBookSo_331 : Dc cL_isBookSo 331 1 332 (.iconst 1) := ⟨by decide +kernel, rfl⟩
theorem d_L_isBookSo_332 : Dj cL_isBookSo 332 335 347 (.if_icmp .ne) := ⟨15, by decide +kernel, rfl, by decide⟩
theorem d_L_isBookSo_335 : Dc cL_isBookSo 335 1 336 (.aload_n 0) := ⟨by decide +kernel, rfl⟩
theorem d_L_isBookSo_336 : Dc cL_isBookSo 336 1 337 (.iload_n 1) := ⟨by decide +kernel, rfl⟩
theorem d_L_isBookSo_337 : Dc cL_isBookSo 337 1 338 (.iload_n 2) := ⟨by decide +kernel, rfl⟩
theorem d_L_isBookSo_338 : Dc cL_isBookSo 338 1 339 (.iconst 1) := ⟨by decide +kernel, rfl⟩
theorem d_L_isBookSo_339 : Dc cL_isBookSo 339 1 340 .isub := ⟨by decide +kernel, rfl⟩
theorem d_L_isBookSo_340 : Dc cL_isBookSo 340 1 341 (.iconst 1) := ⟨by decide +kernel, rfl⟩
theorem d_L_isBookSo_341 : Dc cL_isBookSo 341 3 344 (.invokevirtual 50) := ⟨by decide +kernel, rfl⟩
theorem d_L_isBookSo_344 : Dj cL_isBookSo 344 347 349 .goto := ⟨5, by decide +kernel, rfl, by decide⟩
theorem d_L_isBookSo_347 : Dc cL_isBookSo 347 2 349 (.bipush (-5)) := ⟨by decide +kernel, rfl⟩
theorem d_L_isBookSo_349 : Dc cL_isBookSo 349 2 351 (.istore 5) := ⟨by decide +kernel, rfl⟩
theorem d_L_isBookSo_351 : Dc cL_isBookSo 351 2 353 (.iload 4) := ⟨by decide +kernel, rfl⟩
theorem d_L_isBookSo_353 : Dj cL_isBookSo 353 356 447 (.ifCond .eq) := ⟨94, by decide +kernel, rfl, by decide⟩
theorem d_L_isBookSo_356 : Dc cL_isBookSo 356 1 357 (.iload_n 3) := ⟨by decide +kernel, rfl⟩
theorem d_L_isBookSo_357 : Dc cL_isBookSo 357 1 358 (.aload_n 0) := ⟨by decide +kernel, rfl⟩
theorem d_L_isBookSo_358 : Dc cL_isBookSo 358 1 359 (.iload_n 1) := ⟨by decide +kernel, rfl⟩
theorem d_L_isBookSo_359 : Dc cL_isBookSo 359 1 360 (.iconst 4) := ⟨by decide +kernel, rfl⟩
theorem d_L_isBookSo_360 : Dc cL_isBookSo 360 3 363 (.invokevirtual 47) := ⟨by decide +kernel, rfl⟩
theorem d_L_isBookSo_363 : Dj cL_isBookSo 363 366 447 (.if_icmp .ne) := ⟨84, by decide +kernel, rfl, by decide⟩
theorem d_L_isBookSo_366 : Dc cL_isBookSo 366 1 367 (.aload_n 0) := ⟨by decide +kernel, rfl⟩
theorem d_L_isBookSo_367 : Dc cL_isBookSo 367 1 368 (.iload_n 1) := ⟨by decide +kernel, rfl⟩
theorem d_L_isBookSo_368 : Dc cL_isBookSo 368 1 369 (.iconst 2) := ⟨by decide +kernel, rfl⟩
theorem d_L_isBookSo_369 : Dc cL_isBookSo 369 3 372 (.invokevirtual 47) := ⟨by decide +kernel, rfl⟩
theorem d_L_isBookSo_372 : Dc cL_isBookSo 372 2 374 (.iload 5) := ⟨by decide +kernel, rfl⟩
theorem d_L_isBookSo_374 : Dj cL_isBookSo 374 377 447 (.if_icmp .ne) := ⟨73, by decide +kernel, rfl, by decide⟩
theorem d_L_isBookSo_377 : Dc cL_isBookSo 377 1 378 (.aload_n 0) := ⟨by decide +kernel, rfl⟩
theorem d_L_isBookSo_378 : Dc cL_isBookSo 378 3 381 (.invokevirtual 43) := ⟨by decide +kernel, rfl⟩
theorem d_L_isBookSo_381 : Dc cL_isBookSo 381 1 382 (.iload_n 1) := ⟨by decide +kernel, rfl⟩
theorem d_L_isBookSo_382 : Dc cL_isBookSo 382 1 383 .ishr := ⟨by decide +kernel, rfl⟩
theorem d_L_isBookSo_383 : Dc cL_isBookSo 383 1 384 (.iconst 1) := ⟨by decide +kernel, rfl⟩
theorem d_L_isBookSo_384 : Dc cL_isBookSo 384 1 385 .iand := ⟨by decide +kernel, rfl⟩
theorem d_L_isBookSo_385 : Dc cL_isBookSo 385 1 386 (.iconst 1) := ⟨by decide +kernel, rfl⟩
theorem d_L_isBookSo_386 : Dj cL_isBookSo 386 389 393 (.if_icmp .ne) := ⟨7, by decide +kernel, rfl, by decide⟩
theorem d_L_isBookSo_389 : Dc cL_isBookSo 389 1 390 (.iconst 1) := ⟨by decide +kernel, rfl⟩
theorem d_L_isBookSo_390 : Dj cL_isBookSo 390 393 394 .goto := ⟨4, by decide +kernel, rfl, by decide⟩
theorem d_L_isBookSo_393 : Dc cL_isBookSo 393 1 394 (.iconst 0) := ⟨by decide +kernel, rfl⟩
theorem d_L_isBookSo_394 : Dc cL_isBookSo 394 2 396 (.iload 5) := ⟨by decide +kernel, rfl⟩
theorem d_L_isBookSo_396 : Dc cL_isBookSo 396 1 397 (.aload_n 0) := ⟨by decide +kernel, rfl⟩
theorem d_L_isBookSo_397 : Dc cL_isBookSo 397 1 398 (.iload_n 1) := ⟨by decide +kernel, rfl⟩
theorem d_L_isBookSo_398 : Dc cL_isBookSo 398 1 399 (.iconst 1) := ⟨by decide +kernel, rfl⟩
theorem d_L_isBookSo_399 : Dc cL_isBookSo 399 3 402 (.invokevirtual 47) := ⟨by decide +kernel, rfl⟩
theorem d_L_isBookSo_402 : Dj cL_isBookSo 402 405 409 (.if_icmp .eq) := ⟨7, by decide +kernel, rfl, by decide⟩
theorem d_L_isBookSo_405 : Dc cL_isBookSo 405 1 406 (.iconst 1) := ⟨by decide +kernel, rfl⟩
theorem d_L_isBookSo_406 : Dj cL_isBookSo 406 409 410 .goto := ⟨4, by decide +kernel, rfl, by decide⟩
theorem d_L_isBookSo_409 : Dc cL_isBookSo 409 1 410 (.iconst 0) := ⟨by decide +kernel, rfl⟩
theorem d_L_isBookSo_410 : Dj cL_isBookSo 410 413 447 (.if_icmp .ne) := ⟨37, by decide +kernel, rfl, by decide⟩
theorem d_L_isBookSo_413 : Dc cL_isBookSo 413 1 414 (.iload_n 2) := ⟨by decide +kernel, rfl⟩
theorem d_L_isBookSo_414 : Dj cL_isBookSo 414 417 443 (.ifCond .gt) := ⟨29, by decide +kernel, rfl, by decide⟩
theorem d_L_isBookSo_417 : Dc cL_isBookSo 417 1 418 (.aload_n 0) := ⟨by decide +kernel, rfl⟩
theorem d_L_isBookSo_418 : Dc cL_isBookSo 418 1 419 (.iload_n 1) := ⟨by decide +kernel, rfl⟩
theorem d_L_isBookSo_419 : Dc cL_isBookSo 419 2 421 (.bipush 7) := ⟨by decide +kernel, rfl⟩
theorem d_L_isBookSo_421 : Dc cL_isBookSo 421 3 424 (.invokevirtual 47) := ⟨by decide +kernel, rfl⟩
theorem d_L_isBookSo_424 : Dc cL_isBookSo 424 1 425 (.iconst 1) := ⟨by decide +kernel, rfl⟩
theorem d_L_isBookSo_425 : Dj cL_isBookSo 425 428 443 (.if_icmp .gt) := ⟨18, by decide +kernel, rfl, by decide⟩
theorem d_L_isBookSo_428 : Dc cL_isBookSo 428 1 429 (.aload_n 0) := ⟨by decide +kernel, rfl⟩
theorem d_L_isBookSo_429 : Dc cL_isBookSo 429 1 430 (.iload_n 1) := ⟨by decide +kernel, rfl⟩
theorem d_L_isBookSo_430 : Dc cL_isBookSo 430 1 431 (.iconst 2) := ⟨by decide +kernel, rfl⟩
theorem d_L_isBookSo_431 : Dc cL_isBookSo 431 3 434 (.invokevirtual 47) := ⟨by decide +kernel, rfl⟩
theorem d_L_isBookSo_434 : Dc cL_isBookSo 434 1 435 (.aload_n 0) := ⟨by decide +kernel, rfl⟩
theorem d_L_isBookSo_435 : Dc cL_isBookSo 435 1 436 (.iload_n 1) := ⟨by decide +kernel, rfl⟩
theorem d_L_isBookSo_436 : Dc cL_isBookSo 436 1 437 (.iconst 0) := ⟨by decide +kernel, rfl⟩
theorem d_L_isBookSo_437 : Dc cL_isBookSo 437 3 440 (.invokevirtual 47) := ⟨by decide +kernel, rfl⟩
theorem d_L_isBookSo_440 : Dj cL_isBookSo 440 443 447 (.if_icmp .ne) := ⟨7, by decide +kernel, rfl, by decide⟩
theorem d_L_isBookSo_443 : Dc cL_isBookSo 443 1 444 (.iconst 1) := ⟨by decide +kernel, rfl⟩
theorem d_L_isBookSo_444 : Dj cL_isBookSo 444 447 448 .goto := ⟨4, by decide +kernel, rfl, by decide⟩
theorem d_L_isBookSo_447 : Dc cL_isBookSo 447 1 448 (.iconst 0) := ⟨by decide +kernel, rfl⟩
theorem d_L_isBookSo_448 : decode cL_isBookSo 448 = .ok (.ireturn, 1) := by decide +kernel
set_option maxHeartbeats 4000000 in
set_option maxRecDepth 20000 in
theorem c_L_isBookSo {E : Ev} {n : Nat} {M : Mem} {w o : Nat} {A : AS} (hX : XR E M w n o A) {e : Int} (hI : Inv A.1 e) (he : e ≤ 1000) {h : Nat} (hh : (h : Int) < A.1 619) : MT E yL_isBookSo cL_isBookSo 9 (some .boolean) 7 0 0 [.ref o, .int (iI (h : Int))] n M (PF (some (.int (iI (1)))) n M) := by
  refine MT.of (by decide) rfl (Nat.le_of_ble_eq_true rfl) ?_
  intro X g
  have g0 := g.1
  show V E X 0 0 n M 0 [some (.ref o), some (.int (iI (h : Int))), none, none, none, none, none, none, none] []
  obtain ⟨fs, hXo, hXn⟩ := hX.now
  have hO : Ok A.1 := hXn.ok
  have hm := hO.many
  have hdy := hO.day
  have hk : 0 ≤ (h : Int) ∧ (h : Int) < A.1 619 := ⟨by omega, hh⟩
  have hkr : rg (h : Int) := by constructor <;> omega
  have hkp := hO.at hk.1 hk.2
  have h8 := hkp.stm
  have h3 := hkp.crs
  have hw := hkp.whr
  have hhm := hkp.home
  have hbg := hkp.bgn
  obtain ⟨i1, i2, i3⟩ := hI.2.1 h hk.1 hk.2
  have hbp := bP_b hkp (A.1 (103 * (h : Int) + 8))
  refine V.al0 g0 d_L_isBookSo_0 ?_
  refine V.il1 g0 d_L_isBookSo_1 ?_
  refine V.iconst g0 d_L_isBookSo_2 ?_
  refine V.callVp g0 (MT.ans (c_X6_passport hXo hXn hkr (by decide)) (pas3 hk)) ky_X6_passport ki_X6_passport ks2_X6_passport lk_L_47 hXo rfl rfl (Nat.le_of_ble_eq_true rfl) ⟨Nat.zero_le _, Nat.zero_le _⟩ rfl rfl (Nat.le_of_ble_eq_true rfl) d_L_isBookSo_3 ?_
  refine V.is2 g0 d_L_isBookSo_6 ?_
  refine V.iconst g0 d_L_isBookSo_7 ?_
  refine V.is3 g0 d_L_isBookSo_8 ?_
  refine V.il2 g0 d_L_isBookSo_9 ?_
  refine V.iflt g0 d_L_isBookSo_10 (by omega) (fun c_10 => ?_) (fun c_10 => ?_)
  · skip
    exfalso; omega
  · skip
    refine V.il2 g0 d_L_isBookSo_13 ?_
    refine V.bipush g0 d_L_isBookSo_14 (by decide) ?_
    refine V.icmpgt g0 d_L_isBookSo_16 (by omega) (fun c_16 => ?_) (fun c_16 => ?_)
    · skip
      exfalso; omega
    · skip
      refine V.al0 g0 d_L_isBookSo_19 ?_
      refine V.il1 g0 d_L_isBookSo_20 ?_
      refine V.il2 g0 d_L_isBookSo_21 ?_
      refine V.iconst g0 d_L_isBookSo_22 ?_
      refine V.callVp g0 (MT.ans (c_X6_stamp hXo hXn hkr (by constructor <;> omega) (by decide)) (stp_n (Int.le_refl _) 0)) ky_X6_stamp ki_X6_stamp ks2_X6_stamp lk_L_50 hXo rfl rfl (Nat.le_of_ble_eq_true rfl) ⟨Nat.zero_le _, Nat.zero_le _⟩ rfl rfl (Nat.le_of_ble_eq_true rfl) d_L_isBookSo_23 ?_
      refine V.iconst g0 d_L_isBookSo_26 ?_
      refine V.sameNe g0 d_L_isBookSo_27 ?_
      refine V.al0 g0 d_L_isBookSo_30 ?_
      refine V.il1 g0 d_L_isBookSo_31 ?_
      refine V.bipush g0 d_L_isBookSo_32 (by decide) ?_
      refine V.callVp g0 (MT.ans (c_X6_passport hXo hXn hkr (by decide)) (pas7 hk)) ky_X6_passport ki_X6_passport ks2_X6_passport lk_L_47 hXo rfl rfl (Nat.le_of_ble_eq_true rfl) ⟨Nat.zero_le _, Nat.zero_le _⟩ rfl rfl (Nat.le_of_ble_eq_true rfl) d_L_isBookSo_34 ?_
      refine V.ifle g0 d_L_isBookSo_37 (by omega) (fun c_37 => ?_) (fun c_37 => ?_)
      · skip
        exfalso; omega
      · skip
        refine V.al0 g0 d_L_isBookSo_40 ?_
        refine V.il1 g0 d_L_isBookSo_41 ?_
        refine V.iconst g0 d_L_isBookSo_42 ?_
        refine V.callVp g0 (MT.ans (c_X6_passport hXo hXn hkr (by decide)) (pas5 hk)) ky_X6_passport ki_X6_passport ks2_X6_passport lk_L_47 hXo rfl rfl (Nat.le_of_ble_eq_true rfl) ⟨Nat.zero_le _, Nat.zero_le _⟩ rfl rfl (Nat.le_of_ble_eq_true rfl) d_L_isBookSo_43 ?_
        refine V.bipush g0 d_L_isBookSo_46 (by decide) ?_
        refine V.icmpgt g0 d_L_isBookSo_48 (by omega) (fun c_48 => ?_) (fun c_48 => ?_)
        · skip
          exfalso; omega
        · skip
          refine V.iconst g0 d_L_isBookSo_51 ?_
          refine V.goto g0 d_L_isBookSo_52 ?_
          refine V.is4 g0 d_L_isBookSo_56 ?_
          refine V.iconst g0 d_L_isBookSo_58 ?_
          refine V.is5 g0 d_L_isBookSo_59 ?_
          have LP1 : ∀ (f1 i : Nat), i + f1 = (A.1 (103 * (h : Int) + 8)).toNat → V E X 0 0 n M 61 [some (.ref o), some (.int (iI (h : Int))), some (.int (iI (A.1 (103 * (h : Int) + 8)))), some (.int (iI (sumI (fun r => bI (isGap A.1 (h : Int) r)) i))), some (.int (iI 1)), some (.int (iI (i : Int))), none, none, none] [] := by
            intro f1
            induction f1 using Nat.strongRecOn with
            | _ f1 ih1 =>
            intro i hf1
            refine V.il5 g0 d_L_isBookSo_61 ?_
            refine V.il2 g0 d_L_isBookSo_63 ?_
            refine V.icmpge g0 d_L_isBookSo_64 (by omega) (fun c_64 => ?_) (fun c_64 => ?_)
            · skip
              refine V.il2 g0 d_L_isBookSo_309 ?_
              have ei : i = (A.1 (103 * (h : Int) + 8)).toNat := by omega
              have J : V E X 0 0 n M 349 [some (.ref o), some (.int (iI (h : Int))), some (.int (iI (A.1 (103 * (h : Int) + 8)))), some (.int (iI (sumI (fun r => bI (isGap A.1 (h : Int) r)) i))), some (.int (iI 1)), some (.int (iI (i : Int))), none, none, none] [.int (iI (bP A.1 (h : Int) (A.1 (103 * (h : Int) + 8))))] := by
                refine V.is5 g0 d_L_isBookSo_349 ?_
                refine V.il4 g0 d_L_isBookSo_351 ?_
                refine V.ifeq g0 d_L_isBookSo_353 (by omega) (fun c_353 => ?_) (fun c_353 => ?_)
                · skip
                  exfalso; omega
                · skip
                  refine V.il3 g0 d_L_isBookSo_356 ?_
                  refine V.al0 g0 d_L_isBookSo_357 ?_
                  refine V.il1 g0 d_L_isBookSo_358 ?_
                  refine V.iconst g0 d_L_isBookSo_359 ?_
                  refine V.callVp g0 (MT.ans (c_X6_passport hXo hXn hkr (by decide)) (pas4 hk)) ky_X6_passport ki_X6_passport ks2_X6_passport lk_L_47 hXo rfl rfl (Nat.le_of_ble_eq_true rfl) ⟨Nat.zero_le _, Nat.zero_le _⟩ rfl rfl (Nat.le_of_ble_eq_true rfl) d_L_isBookSo_360 ?_
                  rw [show sumI (fun r => bI (isGap A.1 (h : Int) r)) i = gapsOf A.1 (h : Int) by rw [ei]; rfl]
                  refine V.sameNe g0 d_L_isBookSo_363 ?_
                  refine V.al0 g0 d_L_isBookSo_366 ?_
                  refine V.il1 g0 d_L_isBookSo_367 ?_
                  refine V.iconst g0 d_L_isBookSo_368 ?_
                  refine V.callVp g0 (MT.ans (c_X6_passport hXo hXn hkr (by decide)) (pas2 hk)) ky_X6_passport ki_X6_passport ks2_X6_passport lk_L_47 hXo rfl rfl (Nat.le_of_ble_eq_true rfl) ⟨Nat.zero_le _, Nat.zero_le _⟩ rfl rfl (Nat.le_of_ble_eq_true rfl) d_L_isBookSo_369 ?_
                  refine V.il5 g0 d_L_isBookSo_372 ?_
                  refine V.sameNe g0 d_L_isBookSo_374 ?_
                  refine V.al0 g0 d_L_isBookSo_377 ?_
                  refine V.callVp g0 (MT.ans (c_X6_mistold hXo hXn) (show q_mistold A.1 = ((misN A.1 (A.1 619).toNat : Nat) : Int) from rfl)) ky_X6_mistold ki_X6_mistold ks2_X6_mistold lk_L_43 hXo rfl rfl (Nat.le_of_ble_eq_true rfl) ⟨Nat.zero_le _, Nat.zero_le _⟩ rfl rfl (Nat.le_of_ble_eq_true rfl) d_L_isBookSo_378 ?_
                  refine V.il1 g0 d_L_isBookSo_381 ?_
                  refine V.ishr g0 d_L_isBookSo_382 (iI_shrn (by have := misN_b (s := A.1) (A.1 619).toNat (by omega); omega) (by omega)) ?_
                  refine V.iconst g0 d_L_isBookSo_383 ?_
                  refine V.iand g0 d_L_isBookSo_384 (bit_and _ _) ?_
                  refine V.iconst g0 d_L_isBookSo_385 ?_
                  refine V.eqb_icmpne (P := (misN A.1 (A.1 619).toNat).testBit h = true) g0 d_L_isBookSo_386 d_L_isBookSo_389 d_L_isBookSo_390 d_L_isBookSo_393 bI_rg1 bI_1 ?_
                  refine V.il5 g0 d_L_isBookSo_394 ?_
                  refine V.al0 g0 d_L_isBookSo_396 ?_
                  refine V.il1 g0 d_L_isBookSo_397 ?_
                  refine V.iconst g0 d_L_isBookSo_398 ?_
                  refine V.callVp g0 (MT.ans (c_X6_passport hXo hXn hkr (by decide)) (pas1 hk)) ky_X6_passport ki_X6_passport ks2_X6_passport lk_L_47 hXo rfl rfl (Nat.le_of_ble_eq_true rfl) ⟨Nat.zero_le _, Nat.zero_le _⟩ rfl rfl (Nat.le_of_ble_eq_true rfl) d_L_isBookSo_399 ?_
                  refine V.eqb_icmpeq (P := ¬ bP A.1 (h : Int) (A.1 (103 * (h : Int) + 8)) = A.1 (103 * (h : Int) + 2)) g0 d_L_isBookSo_402 d_L_isBookSo_405 d_L_isBookSo_406 d_L_isBookSo_409 (by omega) Iff.rfl ?_
                  rw [bI_e (show (misN A.1 (A.1 619).toNat).testBit h = true ↔ ¬ bP A.1 (h : Int) (A.1 (103 * (h : Int) + 8)) = A.1 (103 * (h : Int) + 2) from (misN_tb _).trans ⟨fun q => q.2, fun q => ⟨by omega, q⟩⟩)]
                  refine V.sameNe g0 d_L_isBookSo_410 ?_
                  refine V.il2 g0 d_L_isBookSo_413 ?_
                  refine V.ifgt g0 d_L_isBookSo_414 (by omega) (fun c_414 => ?_) (fun c_414 => ?_)
                  · skip
                    refine V.iconst g0 d_L_isBookSo_443 ?_
                    refine V.goto g0 d_L_isBookSo_444 ?_
                    refine V.zret g d_L_isBookSo_448 (by first | exact Or.inl rfl | exact Or.inr rfl | exact bI_01 _) (Nat.zero_le _) (Nat.zero_le _) ⟨congrArg (fun z => some (Value.int (iI z))) ?_, rfl, rfl⟩
                    rfl
                  · skip
                    refine V.al0 g0 d_L_isBookSo_417 ?_
                    refine V.il1 g0 d_L_isBookSo_418 ?_
                    refine V.bipush g0 d_L_isBookSo_419 (by decide) ?_
                    refine V.callVp g0 (MT.ans (c_X6_passport hXo hXn hkr (by decide)) (pas7 hk)) ky_X6_passport ki_X6_passport ks2_X6_passport lk_L_47 hXo rfl rfl (Nat.le_of_ble_eq_true rfl) ⟨Nat.zero_le _, Nat.zero_le _⟩ rfl rfl (Nat.le_of_ble_eq_true rfl) d_L_isBookSo_421 ?_
                    refine V.iconst g0 d_L_isBookSo_424 ?_
                    refine V.icmpgt g0 d_L_isBookSo_425 (by omega) (fun c_425 => ?_) (fun c_425 => ?_)
                    · skip
                      refine V.iconst g0 d_L_isBookSo_443 ?_
                      refine V.goto g0 d_L_isBookSo_444 ?_
                      refine V.zret g d_L_isBookSo_448 (by first | exact Or.inl rfl | exact Or.inr rfl | exact bI_01 _) (Nat.zero_le _) (Nat.zero_le _) ⟨congrArg (fun z => some (Value.int (iI z))) ?_, rfl, rfl⟩
                      rfl
                    · skip
                      refine V.al0 g0 d_L_isBookSo_428 ?_
                      refine V.il1 g0 d_L_isBookSo_429 ?_
                      refine V.iconst g0 d_L_isBookSo_430 ?_
                      refine V.callVp g0 (MT.ans (c_X6_passport hXo hXn hkr (by decide)) (pas2 hk)) ky_X6_passport ki_X6_passport ks2_X6_passport lk_L_47 hXo rfl rfl (Nat.le_of_ble_eq_true rfl) ⟨Nat.zero_le _, Nat.zero_le _⟩ rfl rfl (Nat.le_of_ble_eq_true rfl) d_L_isBookSo_431 ?_
                      refine V.al0 g0 d_L_isBookSo_434 ?_
                      refine V.il1 g0 d_L_isBookSo_435 ?_
                      refine V.iconst g0 d_L_isBookSo_436 ?_
                      refine V.callVp g0 (MT.ans (c_X6_passport hXo hXn hkr (by decide)) (pas0 hk)) ky_X6_passport ki_X6_passport ks2_X6_passport lk_L_47 hXo rfl rfl (Nat.le_of_ble_eq_true rfl) ⟨Nat.zero_le _, Nat.zero_le _⟩ rfl rfl (Nat.le_of_ble_eq_true rfl) d_L_isBookSo_437 ?_
                      have e0 : A.1 (103 * (h : Int) + 8) = 0 := by omega
                      have eb : bP A.1 (h : Int) (A.1 (103 * (h : Int) + 8)) = A.1 (103 * (h : Int) + 0) := by
                        rw [e0, bP_none]
                        exact i2 (by omega)
                      refine V.icmpne g0 d_L_isBookSo_440 (by omega) (fun c_440 => ?_) (fun c_440 => ?_)
                      · skip
                        exfalso; omega
                      · skip
                        refine V.iconst g0 d_L_isBookSo_443 ?_
                        refine V.goto g0 d_L_isBookSo_444 ?_
                        refine V.zret g d_L_isBookSo_448 (by first | exact Or.inl rfl | exact Or.inr rfl | exact bI_01 _) (Nat.zero_le _) (Nat.zero_le _) ⟨congrArg (fun z => some (Value.int (iI z))) ?_, rfl, rfl⟩
                        rfl
              refine V.ifne g0 d_L_isBookSo_310 (by omega) (fun c_310 => ?_) (fun c_310 => ?_)
              · skip
                refine V.al0 g0 d_L_isBookSo_322 ?_
                refine V.il1 g0 d_L_isBookSo_323 ?_
                refine V.il2 g0 d_L_isBookSo_324 ?_
                refine V.iconst g0 d_L_isBookSo_325 ?_
                refine V.isub g0 d_L_isBookSo_326 ?_
                refine V.iconst g0 d_L_isBookSo_327 ?_
                refine V.callVp g0 (MT.ans (c_X6_stamp hXo hXn hkr (by constructor <;> omega) (by decide)) (stp2 hk (r := A.1 (103 * (h : Int) + 8) - 1) (by omega))) ky_X6_stamp ki_X6_stamp ks2_X6_stamp lk_L_50 hXo rfl rfl (Nat.le_of_ble_eq_true rfl) ⟨Nat.zero_le _, Nat.zero_le _⟩ rfl rfl (Nat.le_of_ble_eq_true rfl) d_L_isBookSo_328 ?_
                refine V.iconst g0 d_L_isBookSo_331 ?_
                refine V.icmpne g0 d_L_isBookSo_332 bI_rg1 (fun c_332 => ?_) (fun c_332 => ?_)
                · skip
                  refine V.bipush g0 d_L_isBookSo_347 (by decide) ?_
                  refine V.eqS1 (show (-5 : Int) = bP A.1 (h : Int) (A.1 (103 * (h : Int) + 8)) from ?_) J
                  rw [bP_last (by omega), if_neg (fun q => c_332 (bI_1.mpr q))]
                · skip
                  refine V.al0 g0 d_L_isBookSo_335 ?_
                  refine V.il1 g0 d_L_isBookSo_336 ?_
                  refine V.il2 g0 d_L_isBookSo_337 ?_
                  refine V.iconst g0 d_L_isBookSo_338 ?_
                  refine V.isub g0 d_L_isBookSo_339 ?_
                  refine V.iconst g0 d_L_isBookSo_340 ?_
                  refine V.callVp g0 (MT.ans (c_X6_stamp hXo hXn hkr (by constructor <;> omega) (by decide)) (stp1 hk (r := A.1 (103 * (h : Int) + 8) - 1) (by omega))) ky_X6_stamp ki_X6_stamp ks2_X6_stamp lk_L_50 hXo rfl rfl (Nat.le_of_ble_eq_true rfl) ⟨Nat.zero_le _, Nat.zero_le _⟩ rfl rfl (Nat.le_of_ble_eq_true rfl) d_L_isBookSo_341 ?_
                  refine V.goto g0 d_L_isBookSo_344 ?_
                  refine V.eqS1 (show stC A.1 (h : Int) (A.1 (103 * (h : Int) + 8) - 1) = bP A.1 (h : Int) (A.1 (103 * (h : Int) + 8)) from ?_) J
                  rw [bP_last (by omega), if_pos (bI_1.mp c_332)]
              · skip
                refine V.al0 g0 d_L_isBookSo_313 ?_
                refine V.il1 g0 d_L_isBookSo_314 ?_
                refine V.iconst g0 d_L_isBookSo_315 ?_
                refine V.callVp g0 (MT.ans (c_X6_passport hXo hXn hkr (by decide)) (pas2 hk)) ky_X6_passport ki_X6_passport ks2_X6_passport lk_L_47 hXo rfl rfl (Nat.le_of_ble_eq_true rfl) ⟨Nat.zero_le _, Nat.zero_le _⟩ rfl rfl (Nat.le_of_ble_eq_true rfl) d_L_isBookSo_316 ?_
                refine V.goto g0 d_L_isBookSo_319 ?_
                have eb : A.1 (103 * (h : Int) + 8) = 0 := c_310
                exact J
            · skip
              refine V.al0 g0 d_L_isBookSo_67 ?_
              refine V.il1 g0 d_L_isBookSo_68 ?_
              refine V.il5 g0 d_L_isBookSo_69 ?_
              refine V.iconst g0 d_L_isBookSo_71 ?_
              refine V.callVp g0 (MT.ans (c_X6_stamp hXo hXn hkr (by constructor <;> omega) (by decide)) (stp2 hk (r := (i : Int)) (by omega))) ky_X6_stamp ki_X6_stamp ks2_X6_stamp lk_L_50 hXo rfl rfl (Nat.le_of_ble_eq_true rfl) ⟨Nat.zero_le _, Nat.zero_le _⟩ rfl rfl (Nat.le_of_ble_eq_true rfl) d_L_isBookSo_72 ?_
              refine V.iconst g0 d_L_isBookSo_75 ?_
              refine V.eqb_icmpne (P := isE A.1 (h : Int) (i : Int)) g0 d_L_isBookSo_76 d_L_isBookSo_79 d_L_isBookSo_80 d_L_isBookSo_83 bI_rg1 bI_1 ?_
              refine V.is6 g0 d_L_isBookSo_84 ?_
              refine V.il3 g0 d_L_isBookSo_86 ?_
              refine V.al0 g0 d_L_isBookSo_87 ?_
              refine V.il1 g0 d_L_isBookSo_88 ?_
              refine V.il5 g0 d_L_isBookSo_89 ?_
              refine V.iconst g0 d_L_isBookSo_91 ?_
              refine V.callVp g0 (MT.ans (c_X6_stamp hXo hXn hkr (by constructor <;> omega) (by decide)) (stp3 hk (r := (i : Int)) (by omega))) ky_X6_stamp ki_X6_stamp ks2_X6_stamp lk_L_50 hXo rfl rfl (Nat.le_of_ble_eq_true rfl) ⟨Nat.zero_le _, Nat.zero_le _⟩ rfl rfl (Nat.le_of_ble_eq_true rfl) d_L_isBookSo_92 ?_
              refine V.iadd g0 d_L_isBookSo_95 ?_
              refine V.is3 g0 d_L_isBookSo_96 ?_
              refine V.il4 g0 d_L_isBookSo_97 ?_
              refine V.ifeq g0 d_L_isBookSo_99 (by omega) (fun c_99 => ?_) (fun c_99 => ?_)
              · skip
                exfalso; omega
              · skip
                refine V.al0 g0 d_L_isBookSo_102 ?_
                refine V.il1 g0 d_L_isBookSo_103 ?_
                refine V.il5 g0 d_L_isBookSo_104 ?_
                refine V.iconst g0 d_L_isBookSo_106 ?_
                refine V.callVp g0 (MT.ans (c_X6_stamp hXo hXn hkr (by constructor <;> omega) (by decide)) (stp0 hk (r := (i : Int)) (by omega))) ky_X6_stamp ki_X6_stamp ks2_X6_stamp lk_L_50 hXo rfl rfl (Nat.le_of_ble_eq_true rfl) ⟨Nat.zero_le _, Nat.zero_le _⟩ rfl rfl (Nat.le_of_ble_eq_true rfl) d_L_isBookSo_107 ?_
                have hsb := stD_b hkp (r := (i : Int)) (by omega)
                have hcb := stC_b A.1 (h : Int) (i : Int)
                refine V.al0 g0 d_L_isBookSo_110 ?_
                refine V.iconst g0 d_L_isBookSo_111 ?_
                refine V.callVp g0 (MT.ans (q6_count hX (by decide)) cnt0) ky_X6_count ki_X6_count ks2_X6_count lk_L_14 hXo rfl rfl (Nat.le_of_ble_eq_true rfl) ⟨Nat.zero_le _, Nat.zero_le _⟩ rfl rfl (Nat.le_of_ble_eq_true rfl) d_L_isBookSo_112 ?_
                refine V.icmpgt g0 d_L_isBookSo_115 (by omega) (fun c_115 => ?_) (fun c_115 => ?_)
                · skip
                  exfalso; omega
                · skip
                  refine V.al0 g0 d_L_isBookSo_118 ?_
                  refine V.il1 g0 d_L_isBookSo_119 ?_
                  refine V.il5 g0 d_L_isBookSo_120 ?_
                  refine V.iconst g0 d_L_isBookSo_122 ?_
                  refine V.callVp g0 (MT.ans (c_X6_stamp hXo hXn hkr (by constructor <;> omega) (by decide)) (stp4 hk (r := (i : Int)) (by omega))) ky_X6_stamp ki_X6_stamp ks2_X6_stamp lk_L_50 hXo rfl rfl (Nat.le_of_ble_eq_true rfl) ⟨Nat.zero_le _, Nat.zero_le _⟩ rfl rfl (Nat.le_of_ble_eq_true rfl) d_L_isBookSo_123 ?_
                  refine V.il5 g0 d_L_isBookSo_126 ?_
                  refine V.iconst g0 d_L_isBookSo_128 ?_
                  refine V.idiv g0 d_L_isBookSo_129 (by omega) (by decide) ?_
                  refine V.sameNe g0 d_L_isBookSo_130 ?_
                  refine V.al0 g0 d_L_isBookSo_133 ?_
                  refine V.il1 g0 d_L_isBookSo_134 ?_
                  refine V.il5 g0 d_L_isBookSo_135 ?_
                  refine V.iconst g0 d_L_isBookSo_137 ?_
                  refine V.callVp g0 (MT.ans (c_X6_stamp hXo hXn hkr (by constructor <;> omega) (by decide)) (stp1 hk (r := (i : Int)) (by omega))) ky_X6_stamp ki_X6_stamp ks2_X6_stamp lk_L_50 hXo rfl rfl (Nat.le_of_ble_eq_true rfl) ⟨Nat.zero_le _, Nat.zero_le _⟩ rfl rfl (Nat.le_of_ble_eq_true rfl) d_L_isBookSo_138 ?_
                  refine V.iflt g0 d_L_isBookSo_141 (by omega) (fun c_141 => ?_) (fun c_141 => ?_)
                  · skip
                    exfalso; omega
                  · skip
                    refine V.al0 g0 d_L_isBookSo_144 ?_
                    refine V.il1 g0 d_L_isBookSo_145 ?_
                    refine V.il5 g0 d_L_isBookSo_146 ?_
                    refine V.iconst g0 d_L_isBookSo_148 ?_
                    refine V.callVp g0 (MT.ans (c_X6_stamp hXo hXn hkr (by constructor <;> omega) (by decide)) (stp1 hk (r := (i : Int)) (by omega))) ky_X6_stamp ki_X6_stamp ks2_X6_stamp lk_L_50 hXo rfl rfl (Nat.le_of_ble_eq_true rfl) ⟨Nat.zero_le _, Nat.zero_le _⟩ rfl rfl (Nat.le_of_ble_eq_true rfl) d_L_isBookSo_149 ?_
                    refine V.bipush g0 d_L_isBookSo_152 (by decide) ?_
                    refine V.icmpge g0 d_L_isBookSo_154 (by omega) (fun c_154 => ?_) (fun c_154 => ?_)
                    · skip
                      exfalso; omega
                    · skip
                      refine V.iconst g0 d_L_isBookSo_157 ?_
                      refine V.goto g0 d_L_isBookSo_158 ?_
                      refine V.is4 g0 d_L_isBookSo_162 ?_
                      refine V.il5 g0 d_L_isBookSo_164 ?_
                      refine V.ifle g0 d_L_isBookSo_166 (by omega) (fun c_166 => ?_) (fun c_166 => ?_)
                      · skip
                        refine V.inc5 g0 d_L_isBookSo_303 ?_
                        refine V.goto g0 d_L_isBookSo_306 ?_
                        exact V.weak2 (ih1 (f1 - 1) (by omega) (i + 1) (by omega)) (lcLe_s (lcLe_s (lcLe_s (lcLe_s (lcLe_s (lcLe_s (lcLe_f (lcLe_f (lcLe_f lcLe_n)))))))))
                      · skip
                        refine V.al0 g0 d_L_isBookSo_169 ?_
                        refine V.il1 g0 d_L_isBookSo_170 ?_
                        refine V.il5 g0 d_L_isBookSo_171 ?_
                        refine V.iconst g0 d_L_isBookSo_173 ?_
                        refine V.isub g0 d_L_isBookSo_174 ?_
                        refine V.iconst g0 d_L_isBookSo_175 ?_
                        refine V.callVp g0 (MT.ans (c_X6_stamp hXo hXn hkr (by constructor <;> omega) (by decide)) (stp2 hk (r := (i : Int) - 1) (by omega))) ky_X6_stamp ki_X6_stamp ks2_X6_stamp lk_L_50 hXo rfl rfl (Nat.le_of_ble_eq_true rfl) ⟨Nat.zero_le _, Nat.zero_le _⟩ rfl rfl (Nat.le_of_ble_eq_true rfl) d_L_isBookSo_176 ?_
                        refine V.iconst g0 d_L_isBookSo_179 ?_
                        refine V.eqb_icmpne (P := isE A.1 (h : Int) ((i : Int) - 1)) g0 d_L_isBookSo_180 d_L_isBookSo_183 d_L_isBookSo_184 d_L_isBookSo_187 bI_rg1 bI_1 ?_
                        refine V.is7 g0 d_L_isBookSo_188 ?_
                        refine V.al0 g0 d_L_isBookSo_190 ?_
                        refine V.il1 g0 d_L_isBookSo_191 ?_
                        refine V.il5 g0 d_L_isBookSo_192 ?_
                        refine V.iconst g0 d_L_isBookSo_194 ?_
                        refine V.callVp g0 (MT.ans (c_X6_stamp hXo hXn hkr (by constructor <;> omega) (by decide)) (stp1 hk (r := (i : Int)) (by omega))) ky_X6_stamp ki_X6_stamp ks2_X6_stamp lk_L_50 hXo rfl rfl (Nat.le_of_ble_eq_true rfl) ⟨Nat.zero_le _, Nat.zero_le _⟩ rfl rfl (Nat.le_of_ble_eq_true rfl) d_L_isBookSo_195 ?_
                        refine V.al0 g0 d_L_isBookSo_198 ?_
                        refine V.il1 g0 d_L_isBookSo_199 ?_
                        refine V.il5 g0 d_L_isBookSo_200 ?_
                        refine V.iconst g0 d_L_isBookSo_202 ?_
                        refine V.isub g0 d_L_isBookSo_203 ?_
                        refine V.iconst g0 d_L_isBookSo_204 ?_
                        refine V.callVp g0 (MT.ans (c_X6_stamp hXo hXn hkr (by constructor <;> omega) (by decide)) (stp1 hk (r := (i : Int) - 1) (by omega))) ky_X6_stamp ki_X6_stamp ks2_X6_stamp lk_L_50 hXo rfl rfl (Nat.le_of_ble_eq_true rfl) ⟨Nat.zero_le _, Nat.zero_le _⟩ rfl rfl (Nat.le_of_ble_eq_true rfl) d_L_isBookSo_205 ?_
                        refine V.eqb_icmpne (P := stC A.1 (h : Int) (i : Int) = stC A.1 (h : Int) ((i : Int) - 1)) g0 d_L_isBookSo_208 d_L_isBookSo_211 d_L_isBookSo_212 d_L_isBookSo_215 (by have := stC_b A.1 (h : Int) ((i : Int) - 1); omega) Iff.rfl ?_
                        refine V.is8 g0 d_L_isBookSo_216 ?_
                        refine V.il4 g0 d_L_isBookSo_218 ?_
                        refine V.ifeq g0 d_L_isBookSo_220 (by omega) (fun c_220 => ?_) (fun c_220 => ?_)
                        · skip
                          exfalso; omega
                        · skip
                          refine V.al0 g0 d_L_isBookSo_223 ?_
                          refine V.il1 g0 d_L_isBookSo_224 ?_
                          refine V.il5 g0 d_L_isBookSo_225 ?_
                          refine V.iconst g0 d_L_isBookSo_227 ?_
                          refine V.callVp g0 (MT.ans (c_X6_stamp hXo hXn hkr (by constructor <;> omega) (by decide)) (stp0 hk (r := (i : Int)) (by omega))) ky_X6_stamp ki_X6_stamp ks2_X6_stamp lk_L_50 hXo rfl rfl (Nat.le_of_ble_eq_true rfl) ⟨Nat.zero_le _, Nat.zero_le _⟩ rfl rfl (Nat.le_of_ble_eq_true rfl) d_L_isBookSo_228 ?_
                          refine V.al0 g0 d_L_isBookSo_231 ?_
                          refine V.il1 g0 d_L_isBookSo_232 ?_
                          refine V.il5 g0 d_L_isBookSo_233 ?_
                          refine V.iconst g0 d_L_isBookSo_235 ?_
                          refine V.isub g0 d_L_isBookSo_236 ?_
                          refine V.iconst g0 d_L_isBookSo_237 ?_
                          refine V.callVp g0 (MT.ans (c_X6_stamp hXo hXn hkr (by constructor <;> omega) (by decide)) (stp0 hk (r := (i : Int) - 1) (by omega))) ky_X6_stamp ki_X6_stamp ks2_X6_stamp lk_L_50 hXo rfl rfl (Nat.le_of_ble_eq_true rfl) ⟨Nat.zero_le _, Nat.zero_le _⟩ rfl rfl (Nat.le_of_ble_eq_true rfl) d_L_isBookSo_238 ?_
                          have hsm := stD_m hkp (r := (i : Int)) (by omega)
                          have hsp := stD_b hkp (r := (i : Int) - 1) (by omega)
                          refine V.icmplt g0 d_L_isBookSo_241 (by omega) (fun c_241 => ?_) (fun c_241 => ?_)
                          · skip
                            exfalso; omega
                          · skip
                            refine V.al0 g0 d_L_isBookSo_244 ?_
                            refine V.il1 g0 d_L_isBookSo_245 ?_
                            refine V.il5 g0 d_L_isBookSo_246 ?_
                            refine V.iconst g0 d_L_isBookSo_248 ?_
                            refine V.callVp g0 (MT.ans (c_X6_stamp hXo hXn hkr (by constructor <;> omega) (by decide)) (stp3 hk (r := (i : Int)) (by omega))) ky_X6_stamp ki_X6_stamp ks2_X6_stamp lk_L_50 hXo rfl rfl (Nat.le_of_ble_eq_true rfl) ⟨Nat.zero_le _, Nat.zero_le _⟩ rfl rfl (Nat.le_of_ble_eq_true rfl) d_L_isBookSo_249 ?_
                            refine V.eqb_ifne (P := ¬ isGap A.1 (h : Int) (i : Int)) g0 d_L_isBookSo_252 d_L_isBookSo_255 d_L_isBookSo_256 d_L_isBookSo_259 bI_rg bI_0 ?_
                            refine V.il6 g0 d_L_isBookSo_260 ?_
                            refine V.ifeqB g0 d_L_isBookSo_262 (fun c_262 => ?_) (fun c_262 => ?_)
                            · skip
                              refine V.il7 g0 d_L_isBookSo_278 ?_
                              refine V.ifeqB g0 d_L_isBookSo_280 (fun c_280 => ?_) (fun c_280 => ?_)
                              · skip
                                refine V.iconst g0 d_L_isBookSo_292 ?_
                                have hgf := gap_fit (s := A.1) (k := (h : Int)) (i := (i : Int)) (by omega)
                                rw [if_neg c_262] at hgf
                                rw [show bI (¬ isGap A.1 (h : Int) (i : Int)) = 0 from bI_f (fun q => q (hgf.mpr (fun y => c_280 y.1)))]
                                refine V.sameNe g0 d_L_isBookSo_293 ?_
                                refine V.iconst g0 d_L_isBookSo_296 ?_
                                refine V.goto g0 d_L_isBookSo_297 ?_
                                refine V.is4 g0 d_L_isBookSo_301 ?_
                                refine V.inc5 g0 d_L_isBookSo_303 ?_
                                refine V.goto g0 d_L_isBookSo_306 ?_
                                exact V.weak2 (ih1 (f1 - 1) (by omega) (i + 1) (by omega)) (lcLe_s (lcLe_s (lcLe_s (lcLe_s (lcLe_s (lcLe_s (lcLe_f (lcLe_f (lcLe_f lcLe_n)))))))))
                              · skip
                                refine V.il8 g0 d_L_isBookSo_283 ?_
                                refine V.ifeqB g0 d_L_isBookSo_285 (fun c_285 => ?_) (fun c_285 => ?_)
                                · skip
                                  refine V.iconst g0 d_L_isBookSo_292 ?_
                                  have hgf := gap_fit (s := A.1) (k := (h : Int)) (i := (i : Int)) (by omega)
                                  rw [if_neg c_262] at hgf
                                  rw [show bI (¬ isGap A.1 (h : Int) (i : Int)) = 0 from bI_f (fun q => q (hgf.mpr (fun y => c_285 y.2)))]
                                  refine V.sameNe g0 d_L_isBookSo_293 ?_
                                  refine V.iconst g0 d_L_isBookSo_296 ?_
                                  refine V.goto g0 d_L_isBookSo_297 ?_
                                  refine V.is4 g0 d_L_isBookSo_301 ?_
                                  refine V.inc5 g0 d_L_isBookSo_303 ?_
                                  refine V.goto g0 d_L_isBookSo_306 ?_
                                  exact V.weak2 (ih1 (f1 - 1) (by omega) (i + 1) (by omega)) (lcLe_s (lcLe_s (lcLe_s (lcLe_s (lcLe_s (lcLe_s (lcLe_f (lcLe_f (lcLe_f lcLe_n)))))))))
                                · skip
                                  refine V.iconst g0 d_L_isBookSo_288 ?_
                                  refine V.goto g0 d_L_isBookSo_289 ?_
                                  have hgf := gap_fit (s := A.1) (k := (h : Int)) (i := (i : Int)) (by omega)
                                  rw [if_neg c_262] at hgf
                                  rw [show bI (¬ isGap A.1 (h : Int) (i : Int)) = 1 from bI_t (fun q => hgf.mp q ⟨c_280, c_285⟩)]
                                  refine V.sameNe g0 d_L_isBookSo_293 ?_
                                  refine V.iconst g0 d_L_isBookSo_296 ?_
                                  refine V.goto g0 d_L_isBookSo_297 ?_
                                  refine V.is4 g0 d_L_isBookSo_301 ?_
                                  refine V.inc5 g0 d_L_isBookSo_303 ?_
                                  refine V.goto g0 d_L_isBookSo_306 ?_
                                  exact V.weak2 (ih1 (f1 - 1) (by omega) (i + 1) (by omega)) (lcLe_s (lcLe_s (lcLe_s (lcLe_s (lcLe_s (lcLe_s (lcLe_f (lcLe_f (lcLe_f lcLe_n)))))))))
                            · skip
                              refine V.il7 g0 d_L_isBookSo_265 ?_
                              refine V.ifneB g0 d_L_isBookSo_267 (fun c_267 => ?_) (fun c_267 => ?_)
                              · skip
                                refine V.iconst g0 d_L_isBookSo_274 ?_
                                refine V.goto g0 d_L_isBookSo_275 ?_
                                have hgf := gap_fit (s := A.1) (k := (h : Int)) (i := (i : Int)) (by omega)
                                rw [if_pos c_262] at hgf
                                rw [show bI (¬ isGap A.1 (h : Int) (i : Int)) = 0 from bI_f (fun q => q (hgf.mpr c_267))]
                                refine V.sameNe g0 d_L_isBookSo_293 ?_
                                refine V.iconst g0 d_L_isBookSo_296 ?_
                                refine V.goto g0 d_L_isBookSo_297 ?_
                                refine V.is4 g0 d_L_isBookSo_301 ?_
                                refine V.inc5 g0 d_L_isBookSo_303 ?_
                                refine V.goto g0 d_L_isBookSo_306 ?_
                                exact V.weak2 (ih1 (f1 - 1) (by omega) (i + 1) (by omega)) (lcLe_s (lcLe_s (lcLe_s (lcLe_s (lcLe_s (lcLe_s (lcLe_f (lcLe_f (lcLe_f lcLe_n)))))))))
                              · skip
                                refine V.iconst g0 d_L_isBookSo_270 ?_
                                refine V.goto g0 d_L_isBookSo_271 ?_
                                have hgf := gap_fit (s := A.1) (k := (h : Int)) (i := (i : Int)) (by omega)
                                rw [if_pos c_262] at hgf
                                rw [show bI (¬ isGap A.1 (h : Int) (i : Int)) = 1 from bI_t (fun q => c_267 (hgf.mp q))]
                                refine V.sameNe g0 d_L_isBookSo_293 ?_
                                refine V.iconst g0 d_L_isBookSo_296 ?_
                                refine V.goto g0 d_L_isBookSo_297 ?_
                                refine V.is4 g0 d_L_isBookSo_301 ?_
                                refine V.inc5 g0 d_L_isBookSo_303 ?_
                                refine V.goto g0 d_L_isBookSo_306 ?_
                                exact V.weak2 (ih1 (f1 - 1) (by omega) (i + 1) (by omega)) (lcLe_s (lcLe_s (lcLe_s (lcLe_s (lcLe_s (lcLe_s (lcLe_f (lcLe_f (lcLe_f lcLe_n)))))))))
          exact LP1 (A.1 (103 * (h : Int) + 8)).toNat 0 (by omega)
