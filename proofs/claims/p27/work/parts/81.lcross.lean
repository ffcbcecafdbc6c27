theorem tb_pos {n h : Nat} (t : n.testBit h = true) : 0 < n / 2 ^ h := by
  rw [Nat.testBit_eq_decide_div_mod_eq, decide_eq_true_iff] at t
  generalize n / 2 ^ h = y at t ⊢
  omega
theorem shr8 {a h : Nat} (ha : a < 64) (hh : h < 6) : iI (a : Int) >>> (iI ((h : Int) % 8) &&& 31) = iI ((a / 2 ^ h : Nat) : Int) := by
  rw [show (h : Int) % 8 = (h : Int) by omega]
  exact iI_shrn (by omega) (by omega)
/-- a method of the law's that leaves the object with another history, and the same state -/
def RC (E : Ev) (M : Mem) (w n o : Nat) (A : AS) : Option Value → Nat → Mem → Prop := fun v n' M' => v = some (.int (iI 1)) ∧ n ≤ n' ∧ (∃ A2 : AS, A2.1 = A.1 ∧ XR E M' w n' o A2) ∧ ∀ q, (q < o ∨ o + 438 ≤ q) → q < n → M' q = M q
theorem d_L_isCrossedSo_0 : Dc cL_isCrossedSo 0 1 1 (.aload_n 0) := ⟨by decide +kernel, rfl⟩
theorem d_L_isCrossedSo_1 : Dc cL_isCrossedSo 1 1 2 (.iload_n 1) := ⟨by decide +kernel, rfl⟩
theorem d_L_isCrossedSo_2 : Dc cL_isCrossedSo 2 1 3 (.iload_n 2) := ⟨by decide +kernel, rfl⟩
theorem d_L_isCrossedSo_3 : Dc cL_isCrossedSo 3 3 6 (.invokevirtual 56) := ⟨by decide +kernel, rfl⟩
theorem d_L_isCrossedSo_6 : Dc cL_isCrossedSo 6 2 8 (.istore 4) := ⟨by decide +kernel, rfl⟩
theorem d_L_isCrossedSo_8 : Dc cL_isCrossedSo 8 1 9 (.aload_n 0) := ⟨by decide +kernel, rfl⟩
theorem d_L_isCrossedSo_9 : Dc cL_isCrossedSo 9 1 10 (.iload_n 1) := ⟨by decide +kernel, rfl⟩
theorem d_L_isCrossedSo_10 : Dc cL_isCrossedSo 10 1 11 (.iconst 3) := ⟨by decide +kernel, rfl⟩
theorem d_L_isCrossedSo_11 : Dc cL_isCrossedSo 11 3 14 (.invokevirtual 47) := ⟨by decide +kernel, rfl⟩
theorem d_L_isCrossedSo_14 : Dc cL_isCrossedSo 14 2 16 (.istore 5) := ⟨by decide +kernel, rfl⟩
theorem d_L_isCrossedSo_16 : Dc cL_isCrossedSo 16 1 17 (.aload_n 0) := ⟨by decide +kernel, rfl⟩
theorem d_L_isCrossedSo_17 : Dc cL_isCrossedSo 17 1 18 (.iload_n 1) := ⟨by decide +kernel, rfl⟩
theorem d_L_isCrossedSo_18 : Dc cL_isCrossedSo 18 1 19 (.iconst 1) := ⟨by decide +kernel, rfl⟩
theorem d_L_isCrossedSo_19 : Dc cL_isCrossedSo 19 3 22 (.invokevirtual 47) := ⟨by decide +kernel, rfl⟩
theorem d_L_isCrossedSo_22 : Dc cL_isCrossedSo 22 2 24 (.istore 6) := ⟨by decide +kernel, rfl⟩
theorem d_L_isCrossedSo_24 : Dc cL_isCrossedSo 24 1 25 (.iload_n 3) := ⟨by decide +kernel, rfl⟩
theorem d_L_isCrossedSo_25 : Dj cL_isCrossedSo 25 28 32 (.ifCond .ne) := ⟨7, by decide +kernel, rfl, by decide⟩
theorem d_L_isCrossedSo_28 : Dc cL_isCrossedSo 28 1 29 (.iconst 2) := ⟨by decide +kernel, rfl⟩
theorem d_L_isCrossedSo_29 : Dj cL_isCrossedSo 29 32 42 .goto := ⟨13, by decide +kernel, rfl, by decide⟩
theorem d_L_isCrossedSo_32 : Dc cL_isCrossedSo 32 1 33 (.iload_n 3) := ⟨by decide +kernel, rfl⟩
theorem d_L_isCrossedSo_33 : Dc cL_isCrossedSo 33 1 34 (.iconst 3) := ⟨by decide +kernel, rfl⟩
theorem d_L_isCrossedSo_34 : Dj cL_isCrossedSo 34 37 41 (.if_icmp .ne) := ⟨7, by decide +kernel, rfl, by decide⟩
theorem d_L_isCrossedSo_37 : Dc cL_isCrossedSo 37 1 38 (.iconst 0) := ⟨by decide +kernel, rfl⟩
theorem d_L_isCrossedSo_38 : Dj cL_isCrossedSo 38 41 42 .goto := ⟨4, by decide +kernel, rfl, by decide⟩
theorem d_L_isCrossedSo_41 : Dc cL_isCrossedSo 41 1 42 (.iconst 1) := ⟨by decide +kernel, rfl⟩
theorem d_L_isCrossedSo_42 : Dc cL_isCrossedSo 42 2 44 (.istore 7) := ⟨by decide +kernel, rfl⟩
theorem d_L_isCrossedSo_44 : Dc cL_isCrossedSo 44 1 45 (.aload_n 0) := ⟨by decide +kernel, rfl⟩
theorem d_L_isCrossedSo_45 : Dc cL_isCrossedSo 45 2 47 (.bipush 9) := ⟨by decide +kernel, rfl⟩
theorem d_L_isCrossedSo_47 : Dc cL_isCrossedSo 47 3 50 (.invokevirtual 14) := ⟨by decide +kernel, rfl⟩
theorem d_L_isCrossedSo_50 : Dc cL_isCrossedSo 50 2 52 (.istore 8) := ⟨by decide +kernel, rfl⟩
theorem d_L_isCrossedSo_52 : Dc cL_isCrossedSo 52 1 53 (.aload_n 0) := ⟨by decide +kernel, rfl⟩
theorem d_L_isCrossedSo_53 : Dc cL_isCrossedSo 53 1 54 (.iload_n 1) := ⟨by decide +kernel, rfl⟩
theorem d_L_isCrossedSo_54 : Dc cL_isCrossedSo 54 1 55 (.iload_n 2) := ⟨by decide +kernel, rfl⟩
theorem d_L_isCrossedSo_55 : Dc cL_isCrossedSo 55 1 56 (.iload_n 3) := ⟨by decide +kernel, rfl⟩
theorem d_L_isCrossedSo_56 : Dc cL_isCrossedSo 56 3 59 (.invokevirtual 27) := ⟨by decide +kernel, rfl⟩
theorem d_L_isCrossedSo_59 : Dc cL_isCrossedSo 59 2 61 (.istore 9) := ⟨by decide +kernel, rfl⟩
theorem d_L_isCrossedSo_61 : Dc cL_isCrossedSo 61 2 63 (.iload 9) := ⟨by decide +kernel, rfl⟩
theorem d_L_isCrossedSo_63 : Dj cL_isCrossedSo 63 66 131 (.ifCond .ge) := ⟨68, by decide +kernel, rfl, by decide⟩
theorem d_L_isCrossedSo_66 : Dc cL_isCrossedSo 66 2 68 (.iload 9) := ⟨by decide +kernel, rfl⟩
theorem d_L_isCrossedSo_68 : Dc cL_isCrossedSo 68 2 70 (.bipush (-11)) := ⟨by decide +kernel, rfl⟩
theorem d_L_isCrossedSo_70 : Dj cL_isCrossedSo 70 73 129 (.if_icmp .gt) := ⟨59, by decide +kernel, rfl, by decide⟩
theorem d_L_isCrossedSo_73 : Dc cL_isCrossedSo 73 2 75 (.iload 9) := ⟨by decide +kernel, rfl⟩
theorem d_L_isCrossedSo_75 : Dc cL_isCrossedSo 75 2 77 (.bipush (-16)) := ⟨by decide +kernel, rfl⟩
theorem d_L_isCrossedSo_77 : Dj cL_isCrossedSo 77 80 129 (.if_icmp .lt) := ⟨52, by decide +kernel, rfl, by decide⟩
theorem d_L_isCrossedSo_80 : Dc cL_isCrossedSo 80 2 82 (.iload 9) := ⟨by decide +kernel, rfl⟩
theorem d_L_isCrossedSo_82 : Dc cL_isCrossedSo 82 2 84 (.bipush (-10)) := ⟨by decide +kernel, rfl⟩
theorem d_L_isCrossedSo_84 : Dc cL_isCrossedSo 84 2 86 (.iload 4) := ⟨by decide +kernel, rfl⟩
theorem d_L_isCrossedSo_86 : Dc cL_isCrossedSo 86 1 87 .isub := ⟨by decide +kernel, rfl⟩
theorem d_L_isCrossedSo_87 : Dj cL_isCrossedSo 87 90 103 (.if_icmp .eq) := ⟨16, by decide +kernel, rfl, by decide⟩
theorem d_L_isCrossedSo_90 : Dc cL_isCrossedSo 90 2 92 (.iload 4) := ⟨by decide +kernel, rfl⟩
theorem d_L_isCrossedSo_92 : Dc cL_isCrossedSo 92 1 93 (.iconst 5) := ⟨by decide +kernel, rfl⟩
theorem d_L_isCrossedSo_93 : Dj cL_isCrossedSo 93 96 129 (.if_icmp .ne) := ⟨36, by decide +kernel, rfl, by decide⟩
theorem d_L_isCrossedSo_96 : Dc cL_isCrossedSo 96 2 98 (.iload 9) := ⟨by decide +kernel, rfl⟩
theorem d_L_isCrossedSo_98 : Dc cL_isCrossedSo 98 2 100 (.bipush (-16)) := ⟨by decide +kernel, rfl⟩
theorem d_L_isCrossedSo_100 : Dj cL_isCrossedSo 100 103 129 (.if_icmp .ne) := ⟨29, by decide +kernel, rfl, by decide⟩
theorem d_L_isCrossedSo_103 : Dc cL_isCrossedSo 103 1 104 (.aload_n 0) := ⟨by decide +kernel, rfl⟩
theorem d_L_isCrossedSo_104 : Dc cL_isCrossedSo 104 2 106 (.bipush 9) := ⟨by decide +kernel, rfl⟩
theorem d_L_isCrossedSo_106 : Dc cL_isCrossedSo 106 3 109 (.invokevirtual 14) := ⟨by decide +kernel, rfl⟩
theorem d_L_isCrossedSo_109 : Dc cL_isCrossedSo 109 2 111 (.iload 8) := ⟨by decide +kernel, rfl⟩
theorem d_L_isCrossedSo_111 : Dj cL_isCrossedSo 111 114 129 (.if_icmp .ne) := ⟨18, by decide +kernel, rfl, by decide⟩
theorem d_L_isCrossedSo_114 : Dc cL_isCrossedSo 114 1 115 (.aload_n 0) := ⟨by decide +kernel, rfl⟩
theorem d_L_isCrossedSo_115 : Dc cL_isCrossedSo 115 1 116 (.iload_n 1) := ⟨by decide +kernel, rfl⟩
theorem d_L_isCrossedSo_116 : Dc cL_isCrossedSo 116 1 117 (.iconst 1) := ⟨by decide +kernel, rfl⟩
theorem d_L_isCrossedSo_117 : Dc cL_isCrossedSo 117 3 120 (.invokevirtual 47) := ⟨by decide +kernel, rfl⟩
theorem d_L_isCrossedSo_120 : Dc cL_isCrossedSo 120 2 122 (.iload 6) := ⟨by decide +kernel, rfl⟩
theorem d_L_isCrossedSo_122 : Dj cL_isCrossedSo 122 125 129 (.if_icmp .ne) := ⟨7, by decide +kernel, rfl, by decide⟩
theorem d_L_isCrossedSo_125 : Dc cL_isCrossedSo 125 1 126 (.iconst 1) := ⟨by decide +kernel, rfl⟩
theorem d_L_isCrossedSo_126 : Dj cL_isCrossedSo 126 129 130 .goto := ⟨4, by decide +kernel, rfl, by decide⟩
theorem d_L_isCrossedSo_129 : Dc cL_isCrossedSo 129 1 130 (.iconst 0) := ⟨by decide +kernel, rfl⟩
theorem d_L_isCrossedSo_130 : decode cL_isCrossedSo 130 = .ok (.ireturn, 1) := by decide +kernel
theorem d_L_isCrossedSo_131 : Dc cL_isCrossedSo 131 2 133 (.iload 4) := ⟨by decide +kernel, rfl⟩
theorem d_L_isCrossedSo_133 : Dj cL_isCrossedSo 133 136 148 (.ifCond .eq) := ⟨15, by decide +kernel, rfl, by decide⟩
theorem d_L_isCrossedSo_136 : Dc cL_isCrossedSo 136 2 138 (.iload 4) := ⟨by decide +kernel, rfl⟩
theorem d_L_isCrossedSo_138 : Dc cL_isCrossedSo 138 1 139 (.iconst 5) := ⟨by decide +kernel, rfl⟩
theorem d_L_isCrossedSo_139 : Dj cL_isCrossedSo 139 142 259 (.if_icmp .ne) := ⟨120, by decide +kernel, rfl, by decide⟩
theorem d_L_isCrossedSo_142 : Dc cL_isCrossedSo 142 2 144 (.iload 7) := ⟨by decide +kernel, rfl⟩
theorem d_L_isCrossedSo_144 : Dc cL_isCrossedSo 144 1 145 (.iconst 2) := ⟨by decide +kernel, rfl⟩
theorem d_L_isCrossedSo_145 : Dj cL_isCrossedSo 145 148 259 (.if_icmp .ge) := ⟨114, by decide +kernel, rfl, by decide⟩
theorem d_L_isCrossedSo_148 : Dc cL_isCrossedSo 148 2 150 (.iload 9) := ⟨by decide +kernel, rfl⟩
theorem d_L_isCrossedSo_150 : Dc cL_isCrossedSo 150 2 152 (.iload 5) := ⟨by decide +kernel, rfl⟩
theorem d_L_isCrossedSo_152 : Dc cL_isCrossedSo 152 2 154 (.iload 7) := ⟨by decide +kernel, rfl⟩
theorem d_L_isCrossedSo_154 : Dc cL_isCrossedSo 154 1 155 .iadd := ⟨by decide +kernel, rfl⟩
theorem d_L_isCrossedSo_155 : Dj cL_isCrossedSo 155 158 259 (.if_icmp .ne) := ⟨104, by decide +kernel, rfl, by decide⟩
theorem d_L_isCrossedSo_158 : Dc cL_isCrossedSo 158 1 159 (.aload_n 0) := ⟨by decide +kernel, rfl⟩
theorem d_L_isCrossedSo_159 : Dc cL_isCrossedSo 159 1 160 (.iload_n 1) := ⟨by decide +kernel, rfl⟩
theorem d_L_isCrossedSo_160 : Dc cL_isCrossedSo 160 1 161 (.iconst 3) := ⟨by decide +kernel, rfl⟩
theorem d_L_isCrossedSo_161 : Dc cL_isCrossedSo 161 3 164 (.invokevirtual 47) := ⟨by decide +kernel, rfl⟩
theorem d_L_isCrossedSo_164 : Dc cL_isCrossedSo 164 2 166 (.iload 9) := ⟨by decide +kernel, rfl⟩
theorem d_L_isCrossedSo_166 : Dj cL_isCrossedSo 166 169 259 (.if_icmp .ne) := ⟨93, by decide +kernel, rfl, by decide⟩
theorem d_L_isCrossedSo_169 : Dc cL_isCrossedSo 169 1 170 (.aload_n 0) := ⟨by decide +kernel, rfl⟩
theorem d_L_isCrossedSo_170 : Dc cL_isCrossedSo 170 1 171 (.iload_n 1) := ⟨by decide +kernel, rfl⟩
theorem d_L_isCrossedSo_171 : Dc cL_isCrossedSo 171 1 172 (.iconst 1) := ⟨by decide +kernel, rfl⟩
theorem d_L_isCrossedSo_172 : Dc cL_isCrossedSo 172 3 175 (.invokevirtual 47) := ⟨by decide +kernel, rfl⟩
theorem d_L_isCrossedSo_175 : Dc cL_isCrossedSo 175 1 176 (.iload_n 2) := ⟨by decide +kernel, rfl⟩
theorem d_L_isCrossedSo_176 : Dj cL_isCrossedSo 176 179 259 (.if_icmp .ne) := ⟨83, by decide +kernel, rfl, by decide⟩
theorem d_L_isCrossedSo_179 : Dc cL_isCrossedSo 179 1 180 (.aload_n 0) := ⟨by decide +kernel, rfl⟩
theorem d_L_isCrossedSo_180 : Dc cL_isCrossedSo 180 2 182 (.bipush 9) := ⟨by decide +kernel, rfl⟩
theorem d_L_isCrossedSo_182 : Dc cL_isCrossedSo 182 3 185 (.invokevirtual 14) := ⟨by decide +kernel, rfl⟩
theorem d_L_isCrossedSo_185 : Dc cL_isCrossedSo 185 2 187 (.iload 8) := ⟨by decide +kernel, rfl⟩
theorem d_L_isCrossedSo_187 : Dc cL_isCrossedSo 187 1 188 (.iconst 2) := ⟨by decide +kernel, rfl⟩
theorem d_L_isCrossedSo_188 : Dc cL_isCrossedSo 188 1 189 .iadd := ⟨by decide +kernel, rfl⟩
theorem d_L_isCrossedSo_189 : Dc cL_isCrossedSo 189 2 191 (.iload 7) := ⟨by decide +kernel, rfl⟩
theorem d_L_isCrossedSo_191 : Dc cL_isCrossedSo 191 1 192 .isub := ⟨by decide +kernel, rfl⟩
theorem d_L_isCrossedSo_192 : Dj cL_isCrossedSo 192 195 259 (.if_icmp .ne) := ⟨67, by decide +kernel, rfl, by decide⟩
theorem d_L_isCrossedSo_195 : Dc cL_isCrossedSo 195 1 196 (.iload_n 3) := ⟨by decide +kernel, rfl⟩
theorem d_L_isCrossedSo_196 : Dc cL_isCrossedSo 196 1 197 (.iconst 1) := ⟨by decide +kernel, rfl⟩
theorem d_L_isCrossedSo_197 : Dj cL_isCrossedSo 197 200 210 (.if_icmp .gt) := ⟨13, by decide +kernel, rfl, by decide⟩
theorem d_L_isCrossedSo_200 : Dc cL_isCrossedSo 200 1 201 (.aload_n 0) := ⟨by decide +kernel, rfl⟩
theorem d_L_isCrossedSo_201 : Dc cL_isCrossedSo 201 1 202 (.iload_n 1) := ⟨by decide +kernel, rfl⟩
theorem d_L_isCrossedSo_202 : Dc cL_isCrossedSo 202 1 203 (.iconst 2) := ⟨by decide +kernel, rfl⟩
theorem d_L_isCrossedSo_203 : Dc cL_isCrossedSo 203 3 206 (.invokevirtual 47) := ⟨by decide +kernel, rfl⟩
theorem d_L_isCrossedSo_206 : Dc cL_isCrossedSo 206 1 207 (.iload_n 2) := ⟨by decide +kernel, rfl⟩
theorem d_L_isCrossedSo_207 : Dj cL_isCrossedSo 207 210 259 (.if_icmp .ne) := ⟨52, by decide +kernel, rfl, by decide⟩
theorem d_L_isCrossedSo_210 : Dc cL_isCrossedSo 210 1 211 (.iload_n 3) := ⟨by decide +kernel, rfl⟩
theorem d_L_isCrossedSo_211 : Dc cL_isCrossedSo 211 1 212 (.iconst 2) := ⟨by decide +kernel, rfl⟩
theorem d_L_isCrossedSo_212 : Dc cL_isCrossedSo 212 1 213 .irem := ⟨by decide +kernel, rfl⟩
theorem d_L_isCrossedSo_213 : Dc cL_isCrossedSo 213 1 214 (.iconst 1) := ⟨by decide +kernel, rfl⟩
theorem d_L_isCrossedSo_214 : Dj cL_isCrossedSo 214 217 241 (.if_icmp .eq) := ⟨27, by decide +kernel, rfl, by decide⟩
theorem d_L_isCrossedSo_217 : Dc cL_isCrossedSo 217 1 218 (.aload_n 0) := ⟨by decide +kernel, rfl⟩
theorem d_L_isCrossedSo_218 : Dc cL_isCrossedSo 218 1 219 (.iload_n 1) := ⟨by decide +kernel, rfl⟩
theorem d_L_isCrossedSo_219 : Dc cL_isCrossedSo 219 2 221 (.iload 5) := ⟨by decide +kernel, rfl⟩
theorem d_L_isCrossedSo_221 : Dc cL_isCrossedSo 221 1 222 (.iconst 1) := ⟨by decide +kernel, rfl⟩
theorem d_L_isCrossedSo_222 : Dc cL_isCrossedSo 222 3 225 (.invokevirtual 50) := ⟨by decide +kernel, rfl⟩
theorem d_L_isCrossedSo_225 : Dc cL_isCrossedSo 225 2 227 (.iload 6) := ⟨by decide +kernel, rfl⟩
theorem d_L_isCrossedSo_227 : Dj cL_isCrossedSo 227 230 259 (.if_icmp .ne) := ⟨32, by decide +kernel, rfl, by decide⟩
theorem d_L_isCrossedSo_230 : Dc cL_isCrossedSo 230 1 231 (.aload_n 0) := ⟨by decide +kernel, rfl⟩
theorem d_L_isCrossedSo_231 : Dc cL_isCrossedSo 231 1 232 (.iload_n 1) := ⟨by decide +kernel, rfl⟩
theorem d_L_isCrossedSo_232 : Dc cL_isCrossedSo 232 2 234 (.iload 5) := ⟨by decide +kernel, rfl⟩
theorem d_L_isCrossedSo_234 : Dc cL_isCrossedSo 234 1 235 (.iconst 2) := ⟨by decide +kernel, rfl⟩
theorem d_L_isCrossedSo_235 : Dc cL_isCrossedSo 235 3 238 (.invokevirtual 50) := ⟨by decide +kernel, rfl⟩
theorem d_L_isCrossedSo_238 : Dj cL_isCrossedSo 238 241 259 (.ifCond .ne) := ⟨21, by decide +kernel, rfl, by decide⟩
theorem d_L_isCrossedSo_241 : Dc cL_isCrossedSo 241 1 242 (.aload_n 0) := ⟨by decide +kernel, rfl⟩
theorem d_L_isCrossedSo_242 : Dc cL_isCrossedSo 242 1 243 (.iload_n 2) := ⟨by decide +kernel, rfl⟩
theorem d_L_isCrossedSo_243 : Dc cL_isCrossedSo 243 1 244 (.iconst 0) := ⟨by decide +kernel, rfl⟩
theorem d_L_isCrossedSo_244 : Dc cL_isCrossedSo 244 3 247 (.invokevirtual 69) := ⟨by decide +kernel, rfl⟩
theorem d_L_isCrossedSo_247 : Dc cL_isCrossedSo 247 1 248 (.iload_n 1) := ⟨by decide +kernel, rfl⟩
theorem d_L_isCrossedSo_248 : Dc cL_isCrossedSo 248 2 250 (.bipush 8) := ⟨by decide +kernel, rfl⟩
theorem d_L_isCrossedSo_250 : Dc cL_isCrossedSo 250 1 251 .irem := ⟨by decide +kernel, rfl⟩
theorem d_L_isCrossedSo_251 : Dc cL_isCrossedSo 251 1 252 .ishr := ⟨by decide +kernel, rfl⟩
theorem d_L_isCrossedSo_252 : Dj cL_isCrossedSo 252 255 259 (.ifCond .le) := ⟨7, by decide +kernel, rfl, by decide⟩
theorem d_L_isCrossedSo_255 : Dc cL_isCrossedSo 255 1 256 (.iconst 1) := ⟨by decide +kernel, rfl⟩
theorem d_L_isCrossedSo_256 : Dj cL_isCrossedSo 256 259 260 .goto := ⟨4, by decide +kernel, rfl, by decide⟩
theorem d_L_isCrossedSo_259 : Dc cL_isCrossedSo 259 1 260 (.iconst 0) := ⟨by decide +kernel, rfl⟩
theorem d_L_isCrossedSo_260 : Dc cL_isCrossedSo 260 2 262 (.istore 10) := ⟨by decide +kernel, rfl⟩
theorem d_L_isCrossedSo_262 : Dc cL_isCrossedSo 262 2 264 (.iload 10) := ⟨by decide +kernel, rfl⟩
theorem d_L_isCrossedSo_264 : Dj cL_isCrossedSo 264 267 311 (.ifCond .eq) := ⟨47, by decide +kernel, rfl, by decide⟩
theorem d_L_isCrossedSo_267 : Dc cL_isCrossedSo 267 1 268 (.aload_n 0) := ⟨by decide +kernel, rfl⟩
theorem d_L_isCrossedSo_268 : Dc cL_isCrossedSo 268 3 271 (.invokevirtual 73) := ⟨by decide +kernel, rfl⟩
theorem d_L_isCrossedSo_271 : Dj cL_isCrossedSo 271 274 311 (.ifCond .lt) := ⟨40, by decide +kernel, rfl, by decide⟩
theorem d_L_isCrossedSo_274 : Dc cL_isCrossedSo 274 1 275 (.aload_n 0) := ⟨by decide +kernel, rfl⟩
theorem d_L_isCrossedSo_275 : Dc cL_isCrossedSo 275 1 276 (.iload_n 1) := ⟨by decide +kernel, rfl⟩
theorem d_L_isCrossedSo_276 : Dc cL_isCrossedSo 276 1 277 (.iconst 1) := ⟨by decide +kernel, rfl⟩
theorem d_L_isCrossedSo_277 : Dc cL_isCrossedSo 277 3 280 (.invokevirtual 47) := ⟨by decide +kernel, rfl⟩
theorem d_L_isCrossedSo_280 : Dc cL_isCrossedSo 280 2 282 (.iload 6) := ⟨by decide +kernel, rfl⟩
theorem d_L_isCrossedSo_282 : Dj cL_isCrossedSo 282 285 311 (.if_icmp .ne) := ⟨29, by decide +kernel, rfl, by decide⟩
theorem d_L_isCrossedSo_285 : Dc cL_isCrossedSo 285 1 286 (.aload_n 0) := ⟨by decide +kernel, rfl⟩
theorem d_L_isCrossedSo_286 : Dc cL_isCrossedSo 286 1 287 (.iload_n 1) := ⟨by decide +kernel, rfl⟩
theorem d_L_isCrossedSo_287 : Dc cL_isCrossedSo 287 1 288 (.iconst 3) := ⟨by decide +kernel, rfl⟩
theorem d_L_isCrossedSo_288 : Dc cL_isCrossedSo 288 3 291 (.invokevirtual 47) := ⟨by decide +kernel, rfl⟩
theorem d_L_isCrossedSo_291 : Dc cL_isCrossedSo 291 2 293 (.iload 5) := ⟨by decide +kernel, rfl⟩
theorem d_L_isCrossedSo_293 : Dj cL_isCrossedSo 293 296 311 (.if_icmp .ne) := ⟨18, by decide +kernel, rfl, by decide⟩
theorem d_L_isCrossedSo_296 : Dc cL_isCrossedSo 296 1 297 (.aload_n 0) := ⟨by decide +kernel, rfl⟩
theorem d_L_isCrossedSo_297 : Dc cL_isCrossedSo 297 2 299 (.bipush 9) := ⟨by decide +kernel, rfl⟩
theorem d_L_isCrossedSo_299 : Dc cL_isCrossedSo 299 3 302 (.invokevirtual 14) := ⟨by decide +kernel, rfl⟩
theorem d_L_isCrossedSo_302 : Dc cL_isCrossedSo 302 2 304 (.iload 8) := ⟨by decide +kernel, rfl⟩
theorem d_L_isCrossedSo_304 : Dj cL_isCrossedSo 304 307 311 (.if_icmp .ne) := ⟨7, by decide +kernel, rfl, by decide⟩
theorem d_L_isCrossedSo_307 : Dc cL_isCrossedSo 307 1 308 (.iconst 1) := ⟨by decide +kernel, rfl⟩
theorem d_L_isCrossedSo_308 : Dj cL_isCrossedSo 308 311 312 .goto := ⟨4, by decide +kernel, rfl, by decide⟩
theorem d_L_isCrossedSo_311 : Dc cL_isCrossedSo 311 1 312 (.iconst 0) := ⟨by decide +kernel, rfl⟩
theorem d_L_isCrossedSo_312 : decode cL_isCrossedSo 312 = .ok (.ireturn, 1) := by decide +kernel
set_option maxHeartbeats 4000000 in
set_option maxRecDepth 20000 in
theorem c_L_isCrossedSo {E : Ev} {n : Nat} {M : Mem} {w o : Nat} {A : AS} (hX : XR E M w n o A) {e : Int} (hI : Inv A.1 e) (he : e ≤ 1000) {h : Nat} (hh : (h : Int) < A.1 619) {c f : Int} (hc : 0 ≤ c ∧ c < 6) (hf : 0 ≤ f ∧ f ≤ 3) : MT E yL_isCrossedSo cL_isCrossedSo 11 (some .boolean) 7 0 0 [.ref o, .int (iI (h : Int)), .int (iI c), .int (iI f)] n M (RC E M w n o A) := by
  refine MT.of (by decide) rfl (Nat.le_of_ble_eq_true rfl) ?_
  intro X g
  have g0 := g.1
  show V E X 0 0 n M 0 [some (.ref o), some (.int (iI (h : Int))), some (.int (iI c)), some (.int (iI f)), none, none, none, none, none, none, none] []
  obtain ⟨fs, hXo, hXn⟩ := hX.now
  have hO : Ok A.1 := hXn.ok
  have hm := hO.many
  have hdy := hO.day
  have hk : 0 ≤ (h : Int) ∧ (h : Int) < A.1 619 := ⟨by omega, hh⟩
  have hkr : rg (h : Int) := by constructor <;> omega
  have hkp := hO.at hk.1 hk.2
  have h8 := hkp.stm
  have h3 := hkp.crs
  have hw := hkp.whr
  have hhm := hkp.home
  have hbg := hkp.bgn
  obtain ⟨i1, i2, i3⟩ := hI.2.1 h hk.1 hk.2
  have hbp := bP_b hkp (A.1 (103 * (h : Int) + 8))
  have hc5 : 0 ≤ c ∧ c ≤ 5 := by omega
  have hkn := hX.fct.2.1
  have hrb := hindr_b A.1 (h : Int) c 2
  have hfo : 0 ≤ A.1 621 ∧ A.1 621 ≤ 2 * crsN A.1 := hI.2.2
  refine V.al0 g0 d_L_isCrossedSo_0 ?_
  refine V.il1 g0 d_L_isCrossedSo_1 ?_
  refine V.il2 g0 d_L_isCrossedSo_2 ?_
  refine V.callVp g0 (MT.ans (c_X6_reason hXo hXn hkr (by constructor <;> omega)) (rea hk hc)) ky_X6_reason ki_X6_reason ks2_X6_reason lk_L_56 hXo rfl rfl (Nat.le_of_ble_eq_true rfl) ⟨by decide, by decide⟩ rfl rfl (Nat.le_of_ble_eq_true rfl) d_L_isCrossedSo_3 ?_
  refine V.is4 g0 d_L_isCrossedSo_6 ?_
  refine V.al0 g0 d_L_isCrossedSo_8 ?_
  refine V.il1 g0 d_L_isCrossedSo_9 ?_
  refine V.iconst g0 d_L_isCrossedSo_10 ?_
  refine V.callVp g0 (MT.ans (c_X6_passport hXo hXn hkr (by decide)) (pas3 hk)) ky_X6_passport ki_X6_passport ks2_X6_passport lk_L_47 hXo rfl rfl (Nat.le_of_ble_eq_true rfl) ⟨by decide, by decide⟩ rfl rfl (Nat.le_of_ble_eq_true rfl) d_L_isCrossedSo_11 ?_
  refine V.is5 g0 d_L_isCrossedSo_14 ?_
  refine V.al0 g0 d_L_isCrossedSo_16 ?_
  refine V.il1 g0 d_L_isCrossedSo_17 ?_
  refine V.iconst g0 d_L_isCrossedSo_18 ?_
  refine V.callVp g0 (MT.ans (c_X6_passport hXo hXn hkr (by decide)) (pas1 hk)) ky_X6_passport ki_X6_passport ks2_X6_passport lk_L_47 hXo rfl rfl (Nat.le_of_ble_eq_true rfl) ⟨by decide, by decide⟩ rfl rfl (Nat.le_of_ble_eq_true rfl) d_L_isCrossedSo_19 ?_
  refine V.is6 g0 d_L_isCrossedSo_22 ?_
  have J1 : V E X 0 0 n M 42 [some (.ref o), some (.int (iI (h : Int))), some (.int (iI c)), some (.int (iI f)), some (.int (iI (hindr A.1 (h : Int) c 2))), some (.int (iI (A.1 (103 * (h : Int) + 8)))), some (.int (iI (A.1 (103 * (h : Int) + 2)))), none, none, none, none] [.int (iI (2 - f % 2 - f / 2))] := by
    refine V.is7 g0 d_L_isCrossedSo_42 ?_
    refine V.al0 g0 d_L_isCrossedSo_44 ?_
    refine V.bipush g0 d_L_isCrossedSo_45 (by decide) ?_
    refine V.callVp g0 (MT.ans (q6_count hX (by decide)) cnt9) ky_X6_count ki_X6_count ks2_X6_count lk_L_14 hXo rfl rfl (Nat.le_of_ble_eq_true rfl) ⟨by decide, by decide⟩ rfl rfl (Nat.le_of_ble_eq_true rfl) d_L_isCrossedSo_47 ?_
    refine V.is8 g0 d_L_isCrossedSo_50 ?_
    refine V.al0 g0 d_L_isCrossedSo_52 ?_
    refine V.il1 g0 d_L_isCrossedSo_53 ?_
    refine V.il2 g0 d_L_isCrossedSo_54 ?_
    refine V.il3 g0 d_L_isCrossedSo_55 ?_
    refine V.callV g0 (c_X6_cross hX hkr (by constructor <;> omega) (by constructor <;> omega)) ky_X6_cross ki_X6_cross ks2_X6_cross lk_L_27 hXo rfl rfl (Nat.le_of_ble_eq_true rfl) ⟨by decide, by decide⟩ rfl rfl (Nat.le_of_ble_eq_true rfl) d_L_isCrossedSo_56 (fun v_56 n_56 M_56 h_56 => ?_)
    obtain ⟨rfl, hn1, hX1, hf1⟩ := h_56
    by_cases he : errCross A.1 (h : Int) c f = 0
    · skip
      have hEs := (errCross_so hk hc5 hf).1 he
      have hg := errCross_ok hO he
      have hS := crossS_so (s := A.1) (k := (h : Int)) (c := c) (f := f) ⟨hk.1, by omega⟩ hc5 hw hf ⟨h8.1, hg.2.2.2.2.1⟩ ⟨h3.1, hg.2.2.2.2.2.1⟩
      have h621 := crossS_621 (s := A.1) (p := (h : Int)) (k := c) (f := f) ⟨hk.1, by omega⟩ hf ⟨h8.1, hg.2.2.2.2.1⟩ ⟨h3.1, hg.2.2.2.2.2.1⟩
      have e9 : crossS A.1 (h : Int) c f 619 = A.1 619 := crossS_n (by omega) (by omega) ⟨hk.1, by omega⟩ hf ⟨h8.1, hg.2.2.2.2.1⟩ ⟨h3.1, hg.2.2.2.2.2.1⟩
      have ea : a_cross A (h : Int) c f = (crossS A.1 (h : Int) c f (103 * (h : Int) + 8), recA A (crossS A.1 (h : Int) c f)) := if_neg (fun q => q he)
      have e1 : (a_cross A (h : Int) c f).1 = A.1 (103 * (h : Int) + 8) + (2 - f % 2 - f / 2) := (congrArg Prod.fst ea).trans hS.1
      have e2 : (a_cross A (h : Int) c f).2 = recA A (crossS A.1 (h : Int) c f) := congrArg Prod.snd ea
      rw [e2] at hX1
      rw [e1]
      obtain ⟨fs1, hXo1, hXn1⟩ := hX1.now
      have hXn1 : SR E M_56 w n_56 (o + 1) (crossS A.1 (h : Int) c f) := hXn1
      have hkT : 0 ≤ (h : Int) ∧ (h : Int) < crossS A.1 (h : Int) c f 619 := ⟨hk.1, by omega⟩
      refine V.is9 g0 d_L_isCrossedSo_59 ?_
      refine V.il9 g0 d_L_isCrossedSo_61 ?_
      refine V.ifge g0 d_L_isCrossedSo_63 (by omega) (fun c_63 => ?_) (fun c_63 => ?_)
      · skip
        refine V.il4 g0 d_L_isCrossedSo_131 ?_
        refine V.ifeq g0 d_L_isCrossedSo_133 (by omega) (fun c_133 => ?_) (fun c_133 => ?_)
        · skip
          refine V.il9 g0 d_L_isCrossedSo_148 ?_
          refine V.il5 g0 d_L_isCrossedSo_150 ?_
          refine V.il7 g0 d_L_isCrossedSo_152 ?_
          refine V.iadd g0 d_L_isCrossedSo_154 ?_
          refine V.sameNe g0 d_L_isCrossedSo_155 ?_
          refine V.al0 g0 d_L_isCrossedSo_158 ?_
          refine V.il1 g0 d_L_isCrossedSo_159 ?_
          refine V.iconst g0 d_L_isCrossedSo_160 ?_
          refine V.callVp g0 (MT.ans (c_X6_passport hXo1 hXn1 hkr (by decide)) ((pas3 hkT).trans (hS.1))) ky_X6_passport ki_X6_passport ks2_X6_passport lk_L_47 hXo1 rfl rfl (Nat.le_of_ble_eq_true rfl) ⟨by decide, by decide⟩ rfl rfl (Nat.le_of_ble_eq_true rfl) d_L_isCrossedSo_161 ?_
          refine V.il9 g0 d_L_isCrossedSo_164 ?_
          refine V.sameNe g0 d_L_isCrossedSo_166 ?_
          refine V.al0 g0 d_L_isCrossedSo_169 ?_
          refine V.il1 g0 d_L_isCrossedSo_170 ?_
          refine V.iconst g0 d_L_isCrossedSo_171 ?_
          refine V.callVp g0 (MT.ans (c_X6_passport hXo1 hXn1 hkr (by decide)) ((pas1 hkT).trans (hS.2.1))) ky_X6_passport ki_X6_passport ks2_X6_passport lk_L_47 hXo1 rfl rfl (Nat.le_of_ble_eq_true rfl) ⟨by decide, by decide⟩ rfl rfl (Nat.le_of_ble_eq_true rfl) d_L_isCrossedSo_172 ?_
          refine V.il2 g0 d_L_isCrossedSo_175 ?_
          refine V.sameNe g0 d_L_isCrossedSo_176 ?_
          refine V.al0 g0 d_L_isCrossedSo_179 ?_
          refine V.bipush g0 d_L_isCrossedSo_180 (by decide) ?_
          refine V.callVp g0 (MT.ans (q6_count hX1 (by decide)) (show _ = A.1 621 + 2 - (2 - f % 2 - f / 2) from cnt9.trans (show crossS A.1 (h : Int) c f 621 = _ by rw [h621]; omega))) ky_X6_count ki_X6_count ks2_X6_count lk_L_14 hXo1 rfl rfl (Nat.le_of_ble_eq_true rfl) ⟨by decide, by decide⟩ rfl rfl (Nat.le_of_ble_eq_true rfl) d_L_isCrossedSo_182 ?_
          refine V.il8 g0 d_L_isCrossedSo_185 ?_
          refine V.iconst g0 d_L_isCrossedSo_187 ?_
          refine V.iadd g0 d_L_isCrossedSo_188 ?_
          refine V.il7 g0 d_L_isCrossedSo_189 ?_
          refine V.isub g0 d_L_isCrossedSo_191 ?_
          refine V.sameNe g0 d_L_isCrossedSo_192 ?_
          refine V.il3 g0 d_L_isCrossedSo_195 ?_
          refine V.iconst g0 d_L_isCrossedSo_196 ?_
          refine V.icmpgt g0 d_L_isCrossedSo_197 (by omega) (fun c_197 => ?_) (fun c_197 => ?_)
          · skip
            refine V.il3 g0 d_L_isCrossedSo_210 ?_
            refine V.iconst g0 d_L_isCrossedSo_211 ?_
            refine V.irem g0 d_L_isCrossedSo_212 (by omega) (by decide) ?_
            refine V.iconst g0 d_L_isCrossedSo_213 ?_
            refine V.icmpeq g0 d_L_isCrossedSo_214 (by omega) (fun c_214 => ?_) (fun c_214 => ?_)
            · skip
              refine V.al0 g0 d_L_isCrossedSo_241 ?_
              refine V.il2 g0 d_L_isCrossedSo_242 ?_
              refine V.iconst g0 d_L_isCrossedSo_243 ?_
              refine V.callVp g0 (MT.ans (c_X6_holders hXo1 hXn1 (by constructor <;> omega) (by decide)) (hldq hc)) ky_X6_holders ki_X6_holders ks2_X6_holders lk_L_69 hXo1 rfl rfl (Nat.le_of_ble_eq_true rfl) ⟨by decide, by decide⟩ rfl rfl (Nat.le_of_ble_eq_true rfl) d_L_isCrossedSo_244 ?_
              have hlb := hldN_b (s := crossS A.1 (h : Int) c f) (c := c) (t := 0) (crossS A.1 (h : Int) c f 619).toNat (by omega)
              have htb : (hldN (crossS A.1 (h : Int) c f) c 0 (crossS A.1 (h : Int) c f 619).toNat).testBit h = true := (hldN_tb _).mpr ⟨by omega, by rw [if_pos rfl]; exact hS.2.1⟩
              have hdv := tb_pos htb
              have hdl := Nat.div_le_self (hldN (crossS A.1 (h : Int) c f) c 0 (crossS A.1 (h : Int) c f 619).toNat) (2 ^ h)
              refine V.il1 g0 d_L_isCrossedSo_247 ?_
              refine V.bipush g0 d_L_isCrossedSo_248 (by decide) ?_
              refine V.irem g0 d_L_isCrossedSo_250 (by omega) (by decide) ?_
              refine V.ishr g0 d_L_isCrossedSo_251 (shr8 hlb (by omega)) ?_
              generalize hldN (crossS A.1 (h : Int) c f) c 0 (crossS A.1 (h : Int) c f 619).toNat / 2 ^ h = dv at hdv hdl ⊢
              refine V.ifle g0 d_L_isCrossedSo_252 (by omega) (fun c_252 => ?_) (fun c_252 => ?_)
              · skip
                exfalso; omega
              · skip
                refine V.iconst g0 d_L_isCrossedSo_255 ?_
                refine V.goto g0 d_L_isCrossedSo_256 ?_
                refine V.is10 g0 d_L_isCrossedSo_260 ?_
                refine V.il10 g0 d_L_isCrossedSo_262 ?_
                refine V.ifeq g0 d_L_isCrossedSo_264 (by omega) (fun c_264 => ?_) (fun c_264 => ?_)
                · skip
                  exfalso; omega
                · skip
                  refine V.al0 g0 d_L_isCrossedSo_267 ?_
                  refine V.callV g0 (c_X6_undo hX1) ky_X6_undo ki_X6_undo ks2_X6_undo lk_L_73 hXo1 rfl rfl (Nat.le_of_ble_eq_true rfl) ⟨by decide, by decide⟩ rfl rfl (Nat.le_of_ble_eq_true rfl) d_L_isCrossedSo_268 (fun v_268 n_268 M_268 h_268 => ?_)
                  obtain ⟨rfl, hn2, hX2, hf2⟩ := h_268
                  have hu := undo_rec (A := A) (t := crossS A.1 (h : Int) c f) hkn
                  have hub : 0 ≤ (a_undo (recA A (crossS A.1 (h : Int) c f))).1 ∧ (a_undo (recA A (crossS A.1 (h : Int) c f))).1 ≤ 4 := by
                    rw [hu.1]
                    split <;> omega
                  obtain ⟨fs2, hXo2, hXn2⟩ := hX2.now
                  rw [hu.2] at hXn2
                  refine V.iflt g0 d_L_isCrossedSo_271 (by omega) (fun c_271 => ?_) (fun c_271 => ?_)
                  · skip
                    exfalso; omega
                  · skip
                    refine V.al0 g0 d_L_isCrossedSo_274 ?_
                    refine V.il1 g0 d_L_isCrossedSo_275 ?_
                    refine V.iconst g0 d_L_isCrossedSo_276 ?_
                    refine V.callVp g0 (MT.ans (c_X6_passport hXo2 hXn2 hkr (by decide)) (pas1 hk)) ky_X6_passport ki_X6_passport ks2_X6_passport lk_L_47 hXo2 rfl rfl (Nat.le_of_ble_eq_true rfl) ⟨by decide, by decide⟩ rfl rfl (Nat.le_of_ble_eq_true rfl) d_L_isCrossedSo_277 ?_
                    refine V.il6 g0 d_L_isCrossedSo_280 ?_
                    refine V.sameNe g0 d_L_isCrossedSo_282 ?_
                    refine V.al0 g0 d_L_isCrossedSo_285 ?_
                    refine V.il1 g0 d_L_isCrossedSo_286 ?_
                    refine V.iconst g0 d_L_isCrossedSo_287 ?_
                    refine V.callVp g0 (MT.ans (c_X6_passport hXo2 hXn2 hkr (by decide)) (pas3 hk)) ky_X6_passport ki_X6_passport ks2_X6_passport lk_L_47 hXo2 rfl rfl (Nat.le_of_ble_eq_true rfl) ⟨by decide, by decide⟩ rfl rfl (Nat.le_of_ble_eq_true rfl) d_L_isCrossedSo_288 ?_
                    refine V.il5 g0 d_L_isCrossedSo_291 ?_
                    refine V.sameNe g0 d_L_isCrossedSo_293 ?_
                    refine V.al0 g0 d_L_isCrossedSo_296 ?_
                    refine V.bipush g0 d_L_isCrossedSo_297 (by decide) ?_
                    refine V.callVp g0 (MT.ans (q6_count hX2 (by decide)) (show _ = A.1 621 from cnt9.trans (by rw [hu.2]))) ky_X6_count ki_X6_count ks2_X6_count lk_L_14 hXo2 rfl rfl (Nat.le_of_ble_eq_true rfl) ⟨by decide, by decide⟩ rfl rfl (Nat.le_of_ble_eq_true rfl) d_L_isCrossedSo_299 ?_
                    refine V.il8 g0 d_L_isCrossedSo_302 ?_
                    refine V.sameNe g0 d_L_isCrossedSo_304 ?_
                    refine V.iconst g0 d_L_isCrossedSo_307 ?_
                    refine V.goto g0 d_L_isCrossedSo_308 ?_
                    refine V.zret g d_L_isCrossedSo_312 (by first | exact Or.inl rfl | exact Or.inr rfl | exact bI_01 _) (by decide) (by decide) ?_
                    exact ⟨rfl, by omega, ⟨_, hu.2, hX2⟩, fun q a b => (hf2 q a (by omega)).trans (hf1 q a b)⟩
            · skip
              refine V.al0 g0 d_L_isCrossedSo_217 ?_
              refine V.il1 g0 d_L_isCrossedSo_218 ?_
              refine V.il5 g0 d_L_isCrossedSo_219 ?_
              refine V.iconst g0 d_L_isCrossedSo_221 ?_
              refine V.callVp g0 (MT.ans (c_X6_stamp hXo1 hXn1 hkr (by constructor <;> omega) (by decide)) ((stp1 hkT (r := A.1 (103 * (h : Int) + 8)) (by have := hS.1; omega)).trans (hS.2.2.2 (by omega)).1)) ky_X6_stamp ki_X6_stamp ks2_X6_stamp lk_L_50 hXo1 rfl rfl (Nat.le_of_ble_eq_true rfl) ⟨by decide, by decide⟩ rfl rfl (Nat.le_of_ble_eq_true rfl) d_L_isCrossedSo_222 ?_
              refine V.il6 g0 d_L_isCrossedSo_225 ?_
              refine V.sameNe g0 d_L_isCrossedSo_227 ?_
              refine V.al0 g0 d_L_isCrossedSo_230 ?_
              refine V.il1 g0 d_L_isCrossedSo_231 ?_
              refine V.il5 g0 d_L_isCrossedSo_232 ?_
              refine V.iconst g0 d_L_isCrossedSo_234 ?_
              refine V.callVp g0 (MT.ans (c_X6_stamp hXo1 hXn1 hkr (by constructor <;> omega) (by decide)) ((stp2 hkT (r := A.1 (103 * (h : Int) + 8)) (by have := hS.1; omega)).trans (bI_f (hS.2.2.2 (by omega)).2))) ky_X6_stamp ki_X6_stamp ks2_X6_stamp lk_L_50 hXo1 rfl rfl (Nat.le_of_ble_eq_true rfl) ⟨by decide, by decide⟩ rfl rfl (Nat.le_of_ble_eq_true rfl) d_L_isCrossedSo_235 ?_
              refine V.ifne g0 d_L_isCrossedSo_238 (by omega) (fun c_238 => ?_) (fun c_238 => ?_)
              · skip
                exfalso; omega
              · skip
                refine V.al0 g0 d_L_isCrossedSo_241 ?_
                refine V.il2 g0 d_L_isCrossedSo_242 ?_
                refine V.iconst g0 d_L_isCrossedSo_243 ?_
                refine V.callVp g0 (MT.ans (c_X6_holders hXo1 hXn1 (by constructor <;> omega) (by decide)) (hldq hc)) ky_X6_holders ki_X6_holders ks2_X6_holders lk_L_69 hXo1 rfl rfl (Nat.le_of_ble_eq_true rfl) ⟨by decide, by decide⟩ rfl rfl (Nat.le_of_ble_eq_true rfl) d_L_isCrossedSo_244 ?_
                have hlb := hldN_b (s := crossS A.1 (h : Int) c f) (c := c) (t := 0) (crossS A.1 (h : Int) c f 619).toNat (by omega)
                have htb : (hldN (crossS A.1 (h : Int) c f) c 0 (crossS A.1 (h : Int) c f 619).toNat).testBit h = true := (hldN_tb _).mpr ⟨by omega, by rw [if_pos rfl]; exact hS.2.1⟩
                have hdv := tb_pos htb
                have hdl := Nat.div_le_self (hldN (crossS A.1 (h : Int) c f) c 0 (crossS A.1 (h : Int) c f 619).toNat) (2 ^ h)
                refine V.il1 g0 d_L_isCrossedSo_247 ?_
                refine V.bipush g0 d_L_isCrossedSo_248 (by decide) ?_
                refine V.irem g0 d_L_isCrossedSo_250 (by omega) (by decide) ?_
                refine V.ishr g0 d_L_isCrossedSo_251 (shr8 hlb (by omega)) ?_
                generalize hldN (crossS A.1 (h : Int) c f) c 0 (crossS A.1 (h : Int) c f 619).toNat / 2 ^ h = dv at hdv hdl ⊢
                refine V.ifle g0 d_L_isCrossedSo_252 (by omega) (fun c_252 => ?_) (fun c_252 => ?_)
                · skip
                  exfalso; omega
                · skip
                  refine V.iconst g0 d_L_isCrossedSo_255 ?_
                  refine V.goto g0 d_L_isCrossedSo_256 ?_
                  refine V.is10 g0 d_L_isCrossedSo_260 ?_
                  refine V.il10 g0 d_L_isCrossedSo_262 ?_
                  refine V.ifeq g0 d_L_isCrossedSo_264 (by omega) (fun c_264 => ?_) (fun c_264 => ?_)
                  · skip
                    exfalso; omega
                  · skip
                    refine V.al0 g0 d_L_isCrossedSo_267 ?_
                    refine V.callV g0 (c_X6_undo hX1) ky_X6_undo ki_X6_undo ks2_X6_undo lk_L_73 hXo1 rfl rfl (Nat.le_of_ble_eq_true rfl) ⟨by decide, by decide⟩ rfl rfl (Nat.le_of_ble_eq_true rfl) d_L_isCrossedSo_268 (fun v_268 n_268 M_268 h_268 => ?_)
                    obtain ⟨rfl, hn2, hX2, hf2⟩ := h_268
                    have hu := undo_rec (A := A) (t := crossS A.1 (h : Int) c f) hkn
                    have hub : 0 ≤ (a_undo (recA A (crossS A.1 (h : Int) c f))).1 ∧ (a_undo (recA A (crossS A.1 (h : Int) c f))).1 ≤ 4 := by
                      rw [hu.1]
                      split <;> omega
                    obtain ⟨fs2, hXo2, hXn2⟩ := hX2.now
                    rw [hu.2] at hXn2
                    refine V.iflt g0 d_L_isCrossedSo_271 (by omega) (fun c_271 => ?_) (fun c_271 => ?_)
                    · skip
                      exfalso; omega
                    · skip
                      refine V.al0 g0 d_L_isCrossedSo_274 ?_
                      refine V.il1 g0 d_L_isCrossedSo_275 ?_
                      refine V.iconst g0 d_L_isCrossedSo_276 ?_
                      refine V.callVp g0 (MT.ans (c_X6_passport hXo2 hXn2 hkr (by decide)) (pas1 hk)) ky_X6_passport ki_X6_passport ks2_X6_passport lk_L_47 hXo2 rfl rfl (Nat.le_of_ble_eq_true rfl) ⟨by decide, by decide⟩ rfl rfl (Nat.le_of_ble_eq_true rfl) d_L_isCrossedSo_277 ?_
                      refine V.il6 g0 d_L_isCrossedSo_280 ?_
                      refine V.sameNe g0 d_L_isCrossedSo_282 ?_
                      refine V.al0 g0 d_L_isCrossedSo_285 ?_
                      refine V.il1 g0 d_L_isCrossedSo_286 ?_
                      refine V.iconst g0 d_L_isCrossedSo_287 ?_
                      refine V.callVp g0 (MT.ans (c_X6_passport hXo2 hXn2 hkr (by decide)) (pas3 hk)) ky_X6_passport ki_X6_passport ks2_X6_passport lk_L_47 hXo2 rfl rfl (Nat.le_of_ble_eq_true rfl) ⟨by decide, by decide⟩ rfl rfl (Nat.le_of_ble_eq_true rfl) d_L_isCrossedSo_288 ?_
                      refine V.il5 g0 d_L_isCrossedSo_291 ?_
                      refine V.sameNe g0 d_L_isCrossedSo_293 ?_
                      refine V.al0 g0 d_L_isCrossedSo_296 ?_
                      refine V.bipush g0 d_L_isCrossedSo_297 (by decide) ?_
                      refine V.callVp g0 (MT.ans (q6_count hX2 (by decide)) (show _ = A.1 621 from cnt9.trans (by rw [hu.2]))) ky_X6_count ki_X6_count ks2_X6_count lk_L_14 hXo2 rfl rfl (Nat.le_of_ble_eq_true rfl) ⟨by decide, by decide⟩ rfl rfl (Nat.le_of_ble_eq_true rfl) d_L_isCrossedSo_299 ?_
                      refine V.il8 g0 d_L_isCrossedSo_302 ?_
                      refine V.sameNe g0 d_L_isCrossedSo_304 ?_
                      refine V.iconst g0 d_L_isCrossedSo_307 ?_
                      refine V.goto g0 d_L_isCrossedSo_308 ?_
                      refine V.zret g d_L_isCrossedSo_312 (by first | exact Or.inl rfl | exact Or.inr rfl | exact bI_01 _) (by decide) (by decide) ?_
                      exact ⟨rfl, by omega, ⟨_, hu.2, hX2⟩, fun q a b => (hf2 q a (by omega)).trans (hf1 q a b)⟩
          · skip
            refine V.al0 g0 d_L_isCrossedSo_200 ?_
            refine V.il1 g0 d_L_isCrossedSo_201 ?_
            refine V.iconst g0 d_L_isCrossedSo_202 ?_
            refine V.callVp g0 (MT.ans (c_X6_passport hXo1 hXn1 hkr (by decide)) ((pas2 hkT).trans (hS.2.2.1 (by omega)))) ky_X6_passport ki_X6_passport ks2_X6_passport lk_L_47 hXo1 rfl rfl (Nat.le_of_ble_eq_true rfl) ⟨by decide, by decide⟩ rfl rfl (Nat.le_of_ble_eq_true rfl) d_L_isCrossedSo_203 ?_
            refine V.il2 g0 d_L_isCrossedSo_206 ?_
            refine V.sameNe g0 d_L_isCrossedSo_207 ?_
            refine V.il3 g0 d_L_isCrossedSo_210 ?_
            refine V.iconst g0 d_L_isCrossedSo_211 ?_
            refine V.irem g0 d_L_isCrossedSo_212 (by omega) (by decide) ?_
            refine V.iconst g0 d_L_isCrossedSo_213 ?_
            refine V.icmpeq g0 d_L_isCrossedSo_214 (by omega) (fun c_214 => ?_) (fun c_214 => ?_)
            · skip
              refine V.al0 g0 d_L_isCrossedSo_241 ?_
              refine V.il2 g0 d_L_isCrossedSo_242 ?_
              refine V.iconst g0 d_L_isCrossedSo_243 ?_
              refine V.callVp g0 (MT.ans (c_X6_holders hXo1 hXn1 (by constructor <;> omega) (by decide)) (hldq hc)) ky_X6_holders ki_X6_holders ks2_X6_holders lk_L_69 hXo1 rfl rfl (Nat.le_of_ble_eq_true rfl) ⟨by decide, by decide⟩ rfl rfl (Nat.le_of_ble_eq_true rfl) d_L_isCrossedSo_244 ?_
              have hlb := hldN_b (s := crossS A.1 (h : Int) c f) (c := c) (t := 0) (crossS A.1 (h : Int) c f 619).toNat (by omega)
              have htb : (hldN (crossS A.1 (h : Int) c f) c 0 (crossS A.1 (h : Int) c f 619).toNat).testBit h = true := (hldN_tb _).mpr ⟨by omega, by rw [if_pos rfl]; exact hS.2.1⟩
              have hdv := tb_pos htb
              have hdl := Nat.div_le_self (hldN (crossS A.1 (h : Int) c f) c 0 (crossS A.1 (h : Int) c f 619).toNat) (2 ^ h)
              refine V.il1 g0 d_L_isCrossedSo_247 ?_
              refine V.bipush g0 d_L_isCrossedSo_248 (by decide) ?_
              refine V.irem g0 d_L_isCrossedSo_250 (by omega) (by decide) ?_
              refine V.ishr g0 d_L_isCrossedSo_251 (shr8 hlb (by omega)) ?_
              generalize hldN (crossS A.1 (h : Int) c f) c 0 (crossS A.1 (h : Int) c f 619).toNat / 2 ^ h = dv at hdv hdl ⊢
              refine V.ifle g0 d_L_isCrossedSo_252 (by omega) (fun c_252 => ?_) (fun c_252 => ?_)
              · skip
                exfalso; omega
              · skip
                refine V.iconst g0 d_L_isCrossedSo_255 ?_
                refine V.goto g0 d_L_isCrossedSo_256 ?_
                refine V.is10 g0 d_L_isCrossedSo_260 ?_
                refine V.il10 g0 d_L_isCrossedSo_262 ?_
                refine V.ifeq g0 d_L_isCrossedSo_264 (by omega) (fun c_264 => ?_) (fun c_264 => ?_)
                · skip
                  exfalso; omega
                · skip
                  refine V.al0 g0 d_L_isCrossedSo_267 ?_
                  refine V.callV g0 (c_X6_undo hX1) ky_X6_undo ki_X6_undo ks2_X6_undo lk_L_73 hXo1 rfl rfl (Nat.le_of_ble_eq_true rfl) ⟨by decide, by decide⟩ rfl rfl (Nat.le_of_ble_eq_true rfl) d_L_isCrossedSo_268 (fun v_268 n_268 M_268 h_268 => ?_)
                  obtain ⟨rfl, hn2, hX2, hf2⟩ := h_268
                  have hu := undo_rec (A := A) (t := crossS A.1 (h : Int) c f) hkn
                  have hub : 0 ≤ (a_undo (recA A (crossS A.1 (h : Int) c f))).1 ∧ (a_undo (recA A (crossS A.1 (h : Int) c f))).1 ≤ 4 := by
                    rw [hu.1]
                    split <;> omega
                  obtain ⟨fs2, hXo2, hXn2⟩ := hX2.now
                  rw [hu.2] at hXn2
                  refine V.iflt g0 d_L_isCrossedSo_271 (by omega) (fun c_271 => ?_) (fun c_271 => ?_)
                  · skip
                    exfalso; omega
                  · skip
                    refine V.al0 g0 d_L_isCrossedSo_274 ?_
                    refine V.il1 g0 d_L_isCrossedSo_275 ?_
                    refine V.iconst g0 d_L_isCrossedSo_276 ?_
                    refine V.callVp g0 (MT.ans (c_X6_passport hXo2 hXn2 hkr (by decide)) (pas1 hk)) ky_X6_passport ki_X6_passport ks2_X6_passport lk_L_47 hXo2 rfl rfl (Nat.le_of_ble_eq_true rfl) ⟨by decide, by decide⟩ rfl rfl (Nat.le_of_ble_eq_true rfl) d_L_isCrossedSo_277 ?_
                    refine V.il6 g0 d_L_isCrossedSo_280 ?_
                    refine V.sameNe g0 d_L_isCrossedSo_282 ?_
                    refine V.al0 g0 d_L_isCrossedSo_285 ?_
                    refine V.il1 g0 d_L_isCrossedSo_286 ?_
                    refine V.iconst g0 d_L_isCrossedSo_287 ?_
                    refine V.callVp g0 (MT.ans (c_X6_passport hXo2 hXn2 hkr (by decide)) (pas3 hk)) ky_X6_passport ki_X6_passport ks2_X6_passport lk_L_47 hXo2 rfl rfl (Nat.le_of_ble_eq_true rfl) ⟨by decide, by decide⟩ rfl rfl (Nat.le_of_ble_eq_true rfl) d_L_isCrossedSo_288 ?_
                    refine V.il5 g0 d_L_isCrossedSo_291 ?_
                    refine V.sameNe g0 d_L_isCrossedSo_293 ?_
                    refine V.al0 g0 d_L_isCrossedSo_296 ?_
                    refine V.bipush g0 d_L_isCrossedSo_297 (by decide) ?_
                    refine V.callVp g0 (MT.ans (q6_count hX2 (by decide)) (show _ = A.1 621 from cnt9.trans (by rw [hu.2]))) ky_X6_count ki_X6_count ks2_X6_count lk_L_14 hXo2 rfl rfl (Nat.le_of_ble_eq_true rfl) ⟨by decide, by decide⟩ rfl rfl (Nat.le_of_ble_eq_true rfl) d_L_isCrossedSo_299 ?_
                    refine V.il8 g0 d_L_isCrossedSo_302 ?_
                    refine V.sameNe g0 d_L_isCrossedSo_304 ?_
                    refine V.iconst g0 d_L_isCrossedSo_307 ?_
                    refine V.goto g0 d_L_isCrossedSo_308 ?_
                    refine V.zret g d_L_isCrossedSo_312 (by first | exact Or.inl rfl | exact Or.inr rfl | exact bI_01 _) (by decide) (by decide) ?_
                    exact ⟨rfl, by omega, ⟨_, hu.2, hX2⟩, fun q a b => (hf2 q a (by omega)).trans (hf1 q a b)⟩
            · skip
              refine V.al0 g0 d_L_isCrossedSo_217 ?_
              refine V.il1 g0 d_L_isCrossedSo_218 ?_
              refine V.il5 g0 d_L_isCrossedSo_219 ?_
              refine V.iconst g0 d_L_isCrossedSo_221 ?_
              refine V.callVp g0 (MT.ans (c_X6_stamp hXo1 hXn1 hkr (by constructor <;> omega) (by decide)) ((stp1 hkT (r := A.1 (103 * (h : Int) + 8)) (by have := hS.1; omega)).trans (hS.2.2.2 (by omega)).1)) ky_X6_stamp ki_X6_stamp ks2_X6_stamp lk_L_50 hXo1 rfl rfl (Nat.le_of_ble_eq_true rfl) ⟨by decide, by decide⟩ rfl rfl (Nat.le_of_ble_eq_true rfl) d_L_isCrossedSo_222 ?_
              refine V.il6 g0 d_L_isCrossedSo_225 ?_
              refine V.sameNe g0 d_L_isCrossedSo_227 ?_
              refine V.al0 g0 d_L_isCrossedSo_230 ?_
              refine V.il1 g0 d_L_isCrossedSo_231 ?_
              refine V.il5 g0 d_L_isCrossedSo_232 ?_
              refine V.iconst g0 d_L_isCrossedSo_234 ?_
              refine V.callVp g0 (MT.ans (c_X6_stamp hXo1 hXn1 hkr (by constructor <;> omega) (by decide)) ((stp2 hkT (r := A.1 (103 * (h : Int) + 8)) (by have := hS.1; omega)).trans (bI_f (hS.2.2.2 (by omega)).2))) ky_X6_stamp ki_X6_stamp ks2_X6_stamp lk_L_50 hXo1 rfl rfl (Nat.le_of_ble_eq_true rfl) ⟨by decide, by decide⟩ rfl rfl (Nat.le_of_ble_eq_true rfl) d_L_isCrossedSo_235 ?_
              refine V.ifne g0 d_L_isCrossedSo_238 (by omega) (fun c_238 => ?_) (fun c_238 => ?_)
              · skip
                exfalso; omega
              · skip
                refine V.al0 g0 d_L_isCrossedSo_241 ?_
                refine V.il2 g0 d_L_isCrossedSo_242 ?_
                refine V.iconst g0 d_L_isCrossedSo_243 ?_
                refine V.callVp g0 (MT.ans (c_X6_holders hXo1 hXn1 (by constructor <;> omega) (by decide)) (hldq hc)) ky_X6_holders ki_X6_holders ks2_X6_holders lk_L_69 hXo1 rfl rfl (Nat.le_of_ble_eq_true rfl) ⟨by decide, by decide⟩ rfl rfl (Nat.le_of_ble_eq_true rfl) d_L_isCrossedSo_244 ?_
                have hlb := hldN_b (s := crossS A.1 (h : Int) c f) (c := c) (t := 0) (crossS A.1 (h : Int) c f 619).toNat (by omega)
                have htb : (hldN (crossS A.1 (h : Int) c f) c 0 (crossS A.1 (h : Int) c f 619).toNat).testBit h = true := (hldN_tb _).mpr ⟨by omega, by rw [if_pos rfl]; exact hS.2.1⟩
                have hdv := tb_pos htb
                have hdl := Nat.div_le_self (hldN (crossS A.1 (h : Int) c f) c 0 (crossS A.1 (h : Int) c f 619).toNat) (2 ^ h)
                refine V.il1 g0 d_L_isCrossedSo_247 ?_
                refine V.bipush g0 d_L_isCrossedSo_248 (by decide) ?_
                refine V.irem g0 d_L_isCrossedSo_250 (by omega) (by decide) ?_
                refine V.ishr g0 d_L_isCrossedSo_251 (shr8 hlb (by omega)) ?_
                generalize hldN (crossS A.1 (h : Int) c f) c 0 (crossS A.1 (h : Int) c f 619).toNat / 2 ^ h = dv at hdv hdl ⊢
                refine V.ifle g0 d_L_isCrossedSo_252 (by omega) (fun c_252 => ?_) (fun c_252 => ?_)
                · skip
                  exfalso; omega
                · skip
                  refine V.iconst g0 d_L_isCrossedSo_255 ?_
                  refine V.goto g0 d_L_isCrossedSo_256 ?_
                  refine V.is10 g0 d_L_isCrossedSo_260 ?_
                  refine V.il10 g0 d_L_isCrossedSo_262 ?_
                  refine V.ifeq g0 d_L_isCrossedSo_264 (by omega) (fun c_264 => ?_) (fun c_264 => ?_)
                  · skip
                    exfalso; omega
                  · skip
                    refine V.al0 g0 d_L_isCrossedSo_267 ?_
                    refine V.callV g0 (c_X6_undo hX1) ky_X6_undo ki_X6_undo ks2_X6_undo lk_L_73 hXo1 rfl rfl (Nat.le_of_ble_eq_true rfl) ⟨by decide, by decide⟩ rfl rfl (Nat.le_of_ble_eq_true rfl) d_L_isCrossedSo_268 (fun v_268 n_268 M_268 h_268 => ?_)
                    obtain ⟨rfl, hn2, hX2, hf2⟩ := h_268
                    have hu := undo_rec (A := A) (t := crossS A.1 (h : Int) c f) hkn
                    have hub : 0 ≤ (a_undo (recA A (crossS A.1 (h : Int) c f))).1 ∧ (a_undo (recA A (crossS A.1 (h : Int) c f))).1 ≤ 4 := by
                      rw [hu.1]
                      split <;> omega
                    obtain ⟨fs2, hXo2, hXn2⟩ := hX2.now
                    rw [hu.2] at hXn2
                    refine V.iflt g0 d_L_isCrossedSo_271 (by omega) (fun c_271 => ?_) (fun c_271 => ?_)
                    · skip
                      exfalso; omega
                    · skip
                      refine V.al0 g0 d_L_isCrossedSo_274 ?_
                      refine V.il1 g0 d_L_isCrossedSo_275 ?_
                      refine V.iconst g0 d_L_isCrossedSo_276 ?_
                      refine V.callVp g0 (MT.ans (c_X6_passport hXo2 hXn2 hkr (by decide)) (pas1 hk)) ky_X6_passport ki_X6_passport ks2_X6_passport lk_L_47 hXo2 rfl rfl (Nat.le_of_ble_eq_true rfl) ⟨by decide, by decide⟩ rfl rfl (Nat.le_of_ble_eq_true rfl) d_L_isCrossedSo_277 ?_
                      refine V.il6 g0 d_L_isCrossedSo_280 ?_
                      refine V.sameNe g0 d_L_isCrossedSo_282 ?_
                      refine V.al0 g0 d_L_isCrossedSo_285 ?_
                      refine V.il1 g0 d_L_isCrossedSo_286 ?_
                      refine V.iconst g0 d_L_isCrossedSo_287 ?_
                      refine V.callVp g0 (MT.ans (c_X6_passport hXo2 hXn2 hkr (by decide)) (pas3 hk)) ky_X6_passport ki_X6_passport ks2_X6_passport lk_L_47 hXo2 rfl rfl (Nat.le_of_ble_eq_true rfl) ⟨by decide, by decide⟩ rfl rfl (Nat.le_of_ble_eq_true rfl) d_L_isCrossedSo_288 ?_
                      refine V.il5 g0 d_L_isCrossedSo_291 ?_
                      refine V.sameNe g0 d_L_isCrossedSo_293 ?_
                      refine V.al0 g0 d_L_isCrossedSo_296 ?_
                      refine V.bipush g0 d_L_isCrossedSo_297 (by decide) ?_
                      refine V.callVp g0 (MT.ans (q6_count hX2 (by decide)) (show _ = A.1 621 from cnt9.trans (by rw [hu.2]))) ky_X6_count ki_X6_count ks2_X6_count lk_L_14 hXo2 rfl rfl (Nat.le_of_ble_eq_true rfl) ⟨by decide, by decide⟩ rfl rfl (Nat.le_of_ble_eq_true rfl) d_L_isCrossedSo_299 ?_
                      refine V.il8 g0 d_L_isCrossedSo_302 ?_
                      refine V.sameNe g0 d_L_isCrossedSo_304 ?_
                      refine V.iconst g0 d_L_isCrossedSo_307 ?_
                      refine V.goto g0 d_L_isCrossedSo_308 ?_
                      refine V.zret g d_L_isCrossedSo_312 (by first | exact Or.inl rfl | exact Or.inr rfl | exact bI_01 _) (by decide) (by decide) ?_
                      exact ⟨rfl, by omega, ⟨_, hu.2, hX2⟩, fun q a b => (hf2 q a (by omega)).trans (hf1 q a b)⟩
        · skip
          refine V.il4 g0 d_L_isCrossedSo_136 ?_
          refine V.iconst g0 d_L_isCrossedSo_138 ?_
          refine V.icmpne g0 d_L_isCrossedSo_139 (by omega) (fun c_139 => ?_) (fun c_139 => ?_)
          · skip
            exfalso; omega
          · skip
            refine V.il7 g0 d_L_isCrossedSo_142 ?_
            refine V.iconst g0 d_L_isCrossedSo_144 ?_
            refine V.icmpge g0 d_L_isCrossedSo_145 (by omega) (fun c_145 => ?_) (fun c_145 => ?_)
            · skip
              exfalso; omega
            · skip
              refine V.il9 g0 d_L_isCrossedSo_148 ?_
              refine V.il5 g0 d_L_isCrossedSo_150 ?_
              refine V.il7 g0 d_L_isCrossedSo_152 ?_
              refine V.iadd g0 d_L_isCrossedSo_154 ?_
              refine V.sameNe g0 d_L_isCrossedSo_155 ?_
              refine V.al0 g0 d_L_isCrossedSo_158 ?_
              refine V.il1 g0 d_L_isCrossedSo_159 ?_
              refine V.iconst g0 d_L_isCrossedSo_160 ?_
              refine V.callVp g0 (MT.ans (c_X6_passport hXo1 hXn1 hkr (by decide)) ((pas3 hkT).trans (hS.1))) ky_X6_passport ki_X6_passport ks2_X6_passport lk_L_47 hXo1 rfl rfl (Nat.le_of_ble_eq_true rfl) ⟨by decide, by decide⟩ rfl rfl (Nat.le_of_ble_eq_true rfl) d_L_isCrossedSo_161 ?_
              refine V.il9 g0 d_L_isCrossedSo_164 ?_
              refine V.sameNe g0 d_L_isCrossedSo_166 ?_
              refine V.al0 g0 d_L_isCrossedSo_169 ?_
              refine V.il1 g0 d_L_isCrossedSo_170 ?_
              refine V.iconst g0 d_L_isCrossedSo_171 ?_
              refine V.callVp g0 (MT.ans (c_X6_passport hXo1 hXn1 hkr (by decide)) ((pas1 hkT).trans (hS.2.1))) ky_X6_passport ki_X6_passport ks2_X6_passport lk_L_47 hXo1 rfl rfl (Nat.le_of_ble_eq_true rfl) ⟨by decide, by decide⟩ rfl rfl (Nat.le_of_ble_eq_true rfl) d_L_isCrossedSo_172 ?_
              refine V.il2 g0 d_L_isCrossedSo_175 ?_
              refine V.sameNe g0 d_L_isCrossedSo_176 ?_
              refine V.al0 g0 d_L_isCrossedSo_179 ?_
              refine V.bipush g0 d_L_isCrossedSo_180 (by decide) ?_
              refine V.callVp g0 (MT.ans (q6_count hX1 (by decide)) (show _ = A.1 621 + 2 - (2 - f % 2 - f / 2) from cnt9.trans (show crossS A.1 (h : Int) c f 621 = _ by rw [h621]; omega))) ky_X6_count ki_X6_count ks2_X6_count lk_L_14 hXo1 rfl rfl (Nat.le_of_ble_eq_true rfl) ⟨by decide, by decide⟩ rfl rfl (Nat.le_of_ble_eq_true rfl) d_L_isCrossedSo_182 ?_
              refine V.il8 g0 d_L_isCrossedSo_185 ?_
              refine V.iconst g0 d_L_isCrossedSo_187 ?_
              refine V.iadd g0 d_L_isCrossedSo_188 ?_
              refine V.il7 g0 d_L_isCrossedSo_189 ?_
              refine V.isub g0 d_L_isCrossedSo_191 ?_
              refine V.sameNe g0 d_L_isCrossedSo_192 ?_
              refine V.il3 g0 d_L_isCrossedSo_195 ?_
              refine V.iconst g0 d_L_isCrossedSo_196 ?_
              refine V.icmpgt g0 d_L_isCrossedSo_197 (by omega) (fun c_197 => ?_) (fun c_197 => ?_)
              · skip
                refine V.il3 g0 d_L_isCrossedSo_210 ?_
                refine V.iconst g0 d_L_isCrossedSo_211 ?_
                refine V.irem g0 d_L_isCrossedSo_212 (by omega) (by decide) ?_
                refine V.iconst g0 d_L_isCrossedSo_213 ?_
                refine V.icmpeq g0 d_L_isCrossedSo_214 (by omega) (fun c_214 => ?_) (fun c_214 => ?_)
                · skip
                  refine V.al0 g0 d_L_isCrossedSo_241 ?_
                  refine V.il2 g0 d_L_isCrossedSo_242 ?_
                  refine V.iconst g0 d_L_isCrossedSo_243 ?_
                  refine V.callVp g0 (MT.ans (c_X6_holders hXo1 hXn1 (by constructor <;> omega) (by decide)) (hldq hc)) ky_X6_holders ki_X6_holders ks2_X6_holders lk_L_69 hXo1 rfl rfl (Nat.le_of_ble_eq_true rfl) ⟨by decide, by decide⟩ rfl rfl (Nat.le_of_ble_eq_true rfl) d_L_isCrossedSo_244 ?_
                  have hlb := hldN_b (s := crossS A.1 (h : Int) c f) (c := c) (t := 0) (crossS A.1 (h : Int) c f 619).toNat (by omega)
                  have htb : (hldN (crossS A.1 (h : Int) c f) c 0 (crossS A.1 (h : Int) c f 619).toNat).testBit h = true := (hldN_tb _).mpr ⟨by omega, by rw [if_pos rfl]; exact hS.2.1⟩
                  have hdv := tb_pos htb
                  have hdl := Nat.div_le_self (hldN (crossS A.1 (h : Int) c f) c 0 (crossS A.1 (h : Int) c f 619).toNat) (2 ^ h)
                  refine V.il1 g0 d_L_isCrossedSo_247 ?_
                  refine V.bipush g0 d_L_isCrossedSo_248 (by decide) ?_
                  refine V.irem g0 d_L_isCrossedSo_250 (by omega) (by decide) ?_
                  refine V.ishr g0 d_L_isCrossedSo_251 (shr8 hlb (by omega)) ?_
                  generalize hldN (crossS A.1 (h : Int) c f) c 0 (crossS A.1 (h : Int) c f 619).toNat / 2 ^ h = dv at hdv hdl ⊢
                  refine V.ifle g0 d_L_isCrossedSo_252 (by omega) (fun c_252 => ?_) (fun c_252 => ?_)
                  · skip
                    exfalso; omega
                  · skip
                    refine V.iconst g0 d_L_isCrossedSo_255 ?_
                    refine V.goto g0 d_L_isCrossedSo_256 ?_
                    refine V.is10 g0 d_L_isCrossedSo_260 ?_
                    refine V.il10 g0 d_L_isCrossedSo_262 ?_
                    refine V.ifeq g0 d_L_isCrossedSo_264 (by omega) (fun c_264 => ?_) (fun c_264 => ?_)
                    · skip
                      exfalso; omega
                    · skip
                      refine V.al0 g0 d_L_isCrossedSo_267 ?_
                      refine V.callV g0 (c_X6_undo hX1) ky_X6_undo ki_X6_undo ks2_X6_undo lk_L_73 hXo1 rfl rfl (Nat.le_of_ble_eq_true rfl) ⟨by decide, by decide⟩ rfl rfl (Nat.le_of_ble_eq_true rfl) d_L_isCrossedSo_268 (fun v_268 n_268 M_268 h_268 => ?_)
                      obtain ⟨rfl, hn2, hX2, hf2⟩ := h_268
                      have hu := undo_rec (A := A) (t := crossS A.1 (h : Int) c f) hkn
                      have hub : 0 ≤ (a_undo (recA A (crossS A.1 (h : Int) c f))).1 ∧ (a_undo (recA A (crossS A.1 (h : Int) c f))).1 ≤ 4 := by
                        rw [hu.1]
                        split <;> omega
                      obtain ⟨fs2, hXo2, hXn2⟩ := hX2.now
                      rw [hu.2] at hXn2
                      refine V.iflt g0 d_L_isCrossedSo_271 (by omega) (fun c_271 => ?_) (fun c_271 => ?_)
                      · skip
                        exfalso; omega
                      · skip
                        refine V.al0 g0 d_L_isCrossedSo_274 ?_
                        refine V.il1 g0 d_L_isCrossedSo_275 ?_
                        refine V.iconst g0 d_L_isCrossedSo_276 ?_
                        refine V.callVp g0 (MT.ans (c_X6_passport hXo2 hXn2 hkr (by decide)) (pas1 hk)) ky_X6_passport ki_X6_passport ks2_X6_passport lk_L_47 hXo2 rfl rfl (Nat.le_of_ble_eq_true rfl) ⟨by decide, by decide⟩ rfl rfl (Nat.le_of_ble_eq_true rfl) d_L_isCrossedSo_277 ?_
                        refine V.il6 g0 d_L_isCrossedSo_280 ?_
                        refine V.sameNe g0 d_L_isCrossedSo_282 ?_
                        refine V.al0 g0 d_L_isCrossedSo_285 ?_
                        refine V.il1 g0 d_L_isCrossedSo_286 ?_
                        refine V.iconst g0 d_L_isCrossedSo_287 ?_
                        refine V.callVp g0 (MT.ans (c_X6_passport hXo2 hXn2 hkr (by decide)) (pas3 hk)) ky_X6_passport ki_X6_passport ks2_X6_passport lk_L_47 hXo2 rfl rfl (Nat.le_of_ble_eq_true rfl) ⟨by decide, by decide⟩ rfl rfl (Nat.le_of_ble_eq_true rfl) d_L_isCrossedSo_288 ?_
                        refine V.il5 g0 d_L_isCrossedSo_291 ?_
                        refine V.sameNe g0 d_L_isCrossedSo_293 ?_
                        refine V.al0 g0 d_L_isCrossedSo_296 ?_
                        refine V.bipush g0 d_L_isCrossedSo_297 (by decide) ?_
                        refine V.callVp g0 (MT.ans (q6_count hX2 (by decide)) (show _ = A.1 621 from cnt9.trans (by rw [hu.2]))) ky_X6_count ki_X6_count ks2_X6_count lk_L_14 hXo2 rfl rfl (Nat.le_of_ble_eq_true rfl) ⟨by decide, by decide⟩ rfl rfl (Nat.le_of_ble_eq_true rfl) d_L_isCrossedSo_299 ?_
                        refine V.il8 g0 d_L_isCrossedSo_302 ?_
                        refine V.sameNe g0 d_L_isCrossedSo_304 ?_
                        refine V.iconst g0 d_L_isCrossedSo_307 ?_
                        refine V.goto g0 d_L_isCrossedSo_308 ?_
                        refine V.zret g d_L_isCrossedSo_312 (by first | exact Or.inl rfl | exact Or.inr rfl | exact bI_01 _) (by decide) (by decide) ?_
                        exact ⟨rfl, by omega, ⟨_, hu.2, hX2⟩, fun q a b => (hf2 q a (by omega)).trans (hf1 q a b)⟩
                · skip
                  refine V.al0 g0 d_L_isCrossedSo_217 ?_
                  refine V.il1 g0 d_L_isCrossedSo_218 ?_
                  refine V.il5 g0 d_L_isCrossedSo_219 ?_
                  refine V.iconst g0 d_L_isCrossedSo_221 ?_
                  refine V.callVp g0 (MT.ans (c_X6_stamp hXo1 hXn1 hkr (by constructor <;> omega) (by decide)) ((stp1 hkT (r := A.1 (103 * (h : Int) + 8)) (by have := hS.1; omega)).trans (hS.2.2.2 (by omega)).1)) ky_X6_stamp ki_X6_stamp ks2_X6_stamp lk_L_50 hXo1 rfl rfl (Nat.le_of_ble_eq_true rfl) ⟨by decide, by decide⟩ rfl rfl (Nat.le_of_ble_eq_true rfl) d_L_isCrossedSo_222 ?_
                  refine V.il6 g0 d_L_isCrossedSo_225 ?_
                  refine V.sameNe g0 d_L_isCrossedSo_227 ?_
                  refine V.al0 g0 d_L_isCrossedSo_230 ?_
                  refine V.il1 g0 d_L_isCrossedSo_231 ?_
                  refine V.il5 g0 d_L_isCrossedSo_232 ?_
                  refine V.iconst g0 d_L_isCrossedSo_234 ?_
                  refine V.callVp g0 (MT.ans (c_X6_stamp hXo1 hXn1 hkr (by constructor <;> omega) (by decide)) ((stp2 hkT (r := A.1 (103 * (h : Int) + 8)) (by have := hS.1; omega)).trans (bI_f (hS.2.2.2 (by omega)).2))) ky_X6_stamp ki_X6_stamp ks2_X6_stamp lk_L_50 hXo1 rfl rfl (Nat.le_of_ble_eq_true rfl) ⟨by decide, by decide⟩ rfl rfl (Nat.le_of_ble_eq_true rfl) d_L_isCrossedSo_235 ?_
                  refine V.ifne g0 d_L_isCrossedSo_238 (by omega) (fun c_238 => ?_) (fun c_238 => ?_)
                  · skip
                    exfalso; omega
                  · skip
                    refine V.al0 g0 d_L_isCrossedSo_241 ?_
                    refine V.il2 g0 d_L_isCrossedSo_242 ?_
                    refine V.iconst g0 d_L_isCrossedSo_243 ?_
                    refine V.callVp g0 (MT.ans (c_X6_holders hXo1 hXn1 (by constructor <;> omega) (by decide)) (hldq hc)) ky_X6_holders ki_X6_holders ks2_X6_holders lk_L_69 hXo1 rfl rfl (Nat.le_of_ble_eq_true rfl) ⟨by decide, by decide⟩ rfl rfl (Nat.le_of_ble_eq_true rfl) d_L_isCrossedSo_244 ?_
                    have hlb := hldN_b (s := crossS A.1 (h : Int) c f) (c := c) (t := 0) (crossS A.1 (h : Int) c f 619).toNat (by omega)
                    have htb : (hldN (crossS A.1 (h : Int) c f) c 0 (crossS A.1 (h : Int) c f 619).toNat).testBit h = true := (hldN_tb _).mpr ⟨by omega, by rw [if_pos rfl]; exact hS.2.1⟩
                    have hdv := tb_pos htb
                    have hdl := Nat.div_le_self (hldN (crossS A.1 (h : Int) c f) c 0 (crossS A.1 (h : Int) c f 619).toNat) (2 ^ h)
                    refine V.il1 g0 d_L_isCrossedSo_247 ?_
                    refine V.bipush g0 d_L_isCrossedSo_248 (by decide) ?_
                    refine V.irem g0 d_L_isCrossedSo_250 (by omega) (by decide) ?_
                    refine V.ishr g0 d_L_isCrossedSo_251 (shr8 hlb (by omega)) ?_
                    generalize hldN (crossS A.1 (h : Int) c f) c 0 (crossS A.1 (h : Int) c f 619).toNat / 2 ^ h = dv at hdv hdl ⊢
                    refine V.ifle g0 d_L_isCrossedSo_252 (by omega) (fun c_252 => ?_) (fun c_252 => ?_)
                    · skip
                      exfalso; omega
                    · skip
                      refine V.iconst g0 d_L_isCrossedSo_255 ?_
                      refine V.goto g0 d_L_isCrossedSo_256 ?_
                      refine V.is10 g0 d_L_isCrossedSo_260 ?_
                      refine V.il10 g0 d_L_isCrossedSo_262 ?_
                      refine V.ifeq g0 d_L_isCrossedSo_264 (by omega) (fun c_264 => ?_) (fun c_264 => ?_)
                      · skip
                        exfalso; omega
                      · skip
                        refine V.al0 g0 d_L_isCrossedSo_267 ?_
                        refine V.callV g0 (c_X6_undo hX1) ky_X6_undo ki_X6_undo ks2_X6_undo lk_L_73 hXo1 rfl rfl (Nat.le_of_ble_eq_true rfl) ⟨by decide, by decide⟩ rfl rfl (Nat.le_of_ble_eq_true rfl) d_L_isCrossedSo_268 (fun v_268 n_268 M_268 h_268 => ?_)
                        obtain ⟨rfl, hn2, hX2, hf2⟩ := h_268
                        have hu := undo_rec (A := A) (t := crossS A.1 (h : Int) c f) hkn
                        have hub : 0 ≤ (a_undo (recA A (crossS A.1 (h : Int) c f))).1 ∧ (a_undo (recA A (crossS A.1 (h : Int) c f))).1 ≤ 4 := by
                          rw [hu.1]
                          split <;> omega
                        obtain ⟨fs2, hXo2, hXn2⟩ := hX2.now
                        rw [hu.2] at hXn2
                        refine V.iflt g0 d_L_isCrossedSo_271 (by omega) (fun c_271 => ?_) (fun c_271 => ?_)
                        · skip
                          exfalso; omega
                        · skip
                          refine V.al0 g0 d_L_isCrossedSo_274 ?_
                          refine V.il1 g0 d_L_isCrossedSo_275 ?_
                          refine V.iconst g0 d_L_isCrossedSo_276 ?_
                          refine V.callVp g0 (MT.ans (c_X6_passport hXo2 hXn2 hkr (by decide)) (pas1 hk)) ky_X6_passport ki_X6_passport ks2_X6_passport lk_L_47 hXo2 rfl rfl (Nat.le_of_ble_eq_true rfl) ⟨by decide, by decide⟩ rfl rfl (Nat.le_of_ble_eq_true rfl) d_L_isCrossedSo_277 ?_
                          refine V.il6 g0 d_L_isCrossedSo_280 ?_
                          refine V.sameNe g0 d_L_isCrossedSo_282 ?_
                          refine V.al0 g0 d_L_isCrossedSo_285 ?_
                          refine V.il1 g0 d_L_isCrossedSo_286 ?_
                          refine V.iconst g0 d_L_isCrossedSo_287 ?_
                          refine V.callVp g0 (MT.ans (c_X6_passport hXo2 hXn2 hkr (by decide)) (pas3 hk)) ky_X6_passport ki_X6_passport ks2_X6_passport lk_L_47 hXo2 rfl rfl (Nat.le_of_ble_eq_true rfl) ⟨by decide, by decide⟩ rfl rfl (Nat.le_of_ble_eq_true rfl) d_L_isCrossedSo_288 ?_
                          refine V.il5 g0 d_L_isCrossedSo_291 ?_
                          refine V.sameNe g0 d_L_isCrossedSo_293 ?_
                          refine V.al0 g0 d_L_isCrossedSo_296 ?_
                          refine V.bipush g0 d_L_isCrossedSo_297 (by decide) ?_
                          refine V.callVp g0 (MT.ans (q6_count hX2 (by decide)) (show _ = A.1 621 from cnt9.trans (by rw [hu.2]))) ky_X6_count ki_X6_count ks2_X6_count lk_L_14 hXo2 rfl rfl (Nat.le_of_ble_eq_true rfl) ⟨by decide, by decide⟩ rfl rfl (Nat.le_of_ble_eq_true rfl) d_L_isCrossedSo_299 ?_
                          refine V.il8 g0 d_L_isCrossedSo_302 ?_
                          refine V.sameNe g0 d_L_isCrossedSo_304 ?_
                          refine V.iconst g0 d_L_isCrossedSo_307 ?_
                          refine V.goto g0 d_L_isCrossedSo_308 ?_
                          refine V.zret g d_L_isCrossedSo_312 (by first | exact Or.inl rfl | exact Or.inr rfl | exact bI_01 _) (by decide) (by decide) ?_
                          exact ⟨rfl, by omega, ⟨_, hu.2, hX2⟩, fun q a b => (hf2 q a (by omega)).trans (hf1 q a b)⟩
              · skip
                refine V.al0 g0 d_L_isCrossedSo_200 ?_
                refine V.il1 g0 d_L_isCrossedSo_201 ?_
                refine V.iconst g0 d_L_isCrossedSo_202 ?_
                refine V.callVp g0 (MT.ans (c_X6_passport hXo1 hXn1 hkr (by decide)) ((pas2 hkT).trans (hS.2.2.1 (by omega)))) ky_X6_passport ki_X6_passport ks2_X6_passport lk_L_47 hXo1 rfl rfl (Nat.le_of_ble_eq_true rfl) ⟨by decide, by decide⟩ rfl rfl (Nat.le_of_ble_eq_true rfl) d_L_isCrossedSo_203 ?_
                refine V.il2 g0 d_L_isCrossedSo_206 ?_
                refine V.sameNe g0 d_L_isCrossedSo_207 ?_
                refine V.il3 g0 d_L_isCrossedSo_210 ?_
                refine V.iconst g0 d_L_isCrossedSo_211 ?_
                refine V.irem g0 d_L_isCrossedSo_212 (by omega) (by decide) ?_
                refine V.iconst g0 d_L_isCrossedSo_213 ?_
                refine V.icmpeq g0 d_L_isCrossedSo_214 (by omega) (fun c_214 => ?_) (fun c_214 => ?_)
                · skip
                  refine V.al0 g0 d_L_isCrossedSo_241 ?_
                  refine V.il2 g0 d_L_isCrossedSo_242 ?_
                  refine V.iconst g0 d_L_isCrossedSo_243 ?_
                  refine V.callVp g0 (MT.ans (c_X6_holders hXo1 hXn1 (by constructor <;> omega) (by decide)) (hldq hc)) ky_X6_holders ki_X6_holders ks2_X6_holders lk_L_69 hXo1 rfl rfl (Nat.le_of_ble_eq_true rfl) ⟨by decide, by decide⟩ rfl rfl (Nat.le_of_ble_eq_true rfl) d_L_isCrossedSo_244 ?_
                  have hlb := hldN_b (s := crossS A.1 (h : Int) c f) (c := c) (t := 0) (crossS A.1 (h : Int) c f 619).toNat (by omega)
                  have htb : (hldN (crossS A.1 (h : Int) c f) c 0 (crossS A.1 (h : Int) c f 619).toNat).testBit h = true := (hldN_tb _).mpr ⟨by omega, by rw [if_pos rfl]; exact hS.2.1⟩
                  have hdv := tb_pos htb
                  have hdl := Nat.div_le_self (hldN (crossS A.1 (h : Int) c f) c 0 (crossS A.1 (h : Int) c f 619).toNat) (2 ^ h)
                  refine V.il1 g0 d_L_isCrossedSo_247 ?_
                  refine V.bipush g0 d_L_isCrossedSo_248 (by decide) ?_
                  refine V.irem g0 d_L_isCrossedSo_250 (by omega) (by decide) ?_
                  refine V.ishr g0 d_L_isCrossedSo_251 (shr8 hlb (by omega)) ?_
                  generalize hldN (crossS A.1 (h : Int) c f) c 0 (crossS A.1 (h : Int) c f 619).toNat / 2 ^ h = dv at hdv hdl ⊢
                  refine V.ifle g0 d_L_isCrossedSo_252 (by omega) (fun c_252 => ?_) (fun c_252 => ?_)
                  · skip
                    exfalso; omega
                  · skip
                    refine V.iconst g0 d_L_isCrossedSo_255 ?_
                    refine V.goto g0 d_L_isCrossedSo_256 ?_
                    refine V.is10 g0 d_L_isCrossedSo_260 ?_
                    refine V.il10 g0 d_L_isCrossedSo_262 ?_
                    refine V.ifeq g0 d_L_isCrossedSo_264 (by omega) (fun c_264 => ?_) (fun c_264 => ?_)
                    · skip
                      exfalso; omega
                    · skip
                      refine V.al0 g0 d_L_isCrossedSo_267 ?_
                      refine V.callV g0 (c_X6_undo hX1) ky_X6_undo ki_X6_undo ks2_X6_undo lk_L_73 hXo1 rfl rfl (Nat.le_of_ble_eq_true rfl) ⟨by decide, by decide⟩ rfl rfl (Nat.le_of_ble_eq_true rfl) d_L_isCrossedSo_268 (fun v_268 n_268 M_268 h_268 => ?_)
                      obtain ⟨rfl, hn2, hX2, hf2⟩ := h_268
                      have hu := undo_rec (A := A) (t := crossS A.1 (h : Int) c f) hkn
                      have hub : 0 ≤ (a_undo (recA A (crossS A.1 (h : Int) c f))).1 ∧ (a_undo (recA A (crossS A.1 (h : Int) c f))).1 ≤ 4 := by
                        rw [hu.1]
                        split <;> omega
                      obtain ⟨fs2, hXo2, hXn2⟩ := hX2.now
                      rw [hu.2] at hXn2
                      refine V.iflt g0 d_L_isCrossedSo_271 (by omega) (fun c_271 => ?_) (fun c_271 => ?_)
                      · skip
                        exfalso; omega
                      · skip
                        refine V.al0 g0 d_L_isCrossedSo_274 ?_
                        refine V.il1 g0 d_L_isCrossedSo_275 ?_
                        refine V.iconst g0 d_L_isCrossedSo_276 ?_
                        refine V.callVp g0 (MT.ans (c_X6_passport hXo2 hXn2 hkr (by decide)) (pas1 hk)) ky_X6_passport ki_X6_passport ks2_X6_passport lk_L_47 hXo2 rfl rfl (Nat.le_of_ble_eq_true rfl) ⟨by decide, by decide⟩ rfl rfl (Nat.le_of_ble_eq_true rfl) d_L_isCrossedSo_277 ?_
                        refine V.il6 g0 d_L_isCrossedSo_280 ?_
                        refine V.sameNe g0 d_L_isCrossedSo_282 ?_
                        refine V.al0 g0 d_L_isCrossedSo_285 ?_
                        refine V.il1 g0 d_L_isCrossedSo_286 ?_
                        refine V.iconst g0 d_L_isCrossedSo_287 ?_
                        refine V.callVp g0 (MT.ans (c_X6_passport hXo2 hXn2 hkr (by decide)) (pas3 hk)) ky_X6_passport ki_X6_passport ks2_X6_passport lk_L_47 hXo2 rfl rfl (Nat.le_of_ble_eq_true rfl) ⟨by decide, by decide⟩ rfl rfl (Nat.le_of_ble_eq_true rfl) d_L_isCrossedSo_288 ?_
                        refine V.il5 g0 d_L_isCrossedSo_291 ?_
                        refine V.sameNe g0 d_L_isCrossedSo_293 ?_
                        refine V.al0 g0 d_L_isCrossedSo_296 ?_
                        refine V.bipush g0 d_L_isCrossedSo_297 (by decide) ?_
                        refine V.callVp g0 (MT.ans (q6_count hX2 (by decide)) (show _ = A.1 621 from cnt9.trans (by rw [hu.2]))) ky_X6_count ki_X6_count ks2_X6_count lk_L_14 hXo2 rfl rfl (Nat.le_of_ble_eq_true rfl) ⟨by decide, by decide⟩ rfl rfl (Nat.le_of_ble_eq_true rfl) d_L_isCrossedSo_299 ?_
                        refine V.il8 g0 d_L_isCrossedSo_302 ?_
                        refine V.sameNe g0 d_L_isCrossedSo_304 ?_
                        refine V.iconst g0 d_L_isCrossedSo_307 ?_
                        refine V.goto g0 d_L_isCrossedSo_308 ?_
                        refine V.zret g d_L_isCrossedSo_312 (by first | exact Or.inl rfl | exact Or.inr rfl | exact bI_01 _) (by decide) (by decide) ?_
                        exact ⟨rfl, by omega, ⟨_, hu.2, hX2⟩, fun q a b => (hf2 q a (by omega)).trans (hf1 q a b)⟩
                · skip
                  refine V.al0 g0 d_L_isCrossedSo_217 ?_
                  refine V.il1 g0 d_L_isCrossedSo_218 ?_
                  refine V.il5 g0 d_L_isCrossedSo_219 ?_
                  refine V.iconst g0 d_L_isCrossedSo_221 ?_
                  refine V.callVp g0 (MT.ans (c_X6_stamp hXo1 hXn1 hkr (by constructor <;> omega) (by decide)) ((stp1 hkT (r := A.1 (103 * (h : Int) + 8)) (by have := hS.1; omega)).trans (hS.2.2.2 (by omega)).1)) ky_X6_stamp ki_X6_stamp ks2_X6_stamp lk_L_50 hXo1 rfl rfl (Nat.le_of_ble_eq_true rfl) ⟨by decide, by decide⟩ rfl rfl (Nat.le_of_ble_eq_true rfl) d_L_isCrossedSo_222 ?_
                  refine V.il6 g0 d_L_isCrossedSo_225 ?_
                  refine V.sameNe g0 d_L_isCrossedSo_227 ?_
                  refine V.al0 g0 d_L_isCrossedSo_230 ?_
                  refine V.il1 g0 d_L_isCrossedSo_231 ?_
                  refine V.il5 g0 d_L_isCrossedSo_232 ?_
                  refine V.iconst g0 d_L_isCrossedSo_234 ?_
                  refine V.callVp g0 (MT.ans (c_X6_stamp hXo1 hXn1 hkr (by constructor <;> omega) (by decide)) ((stp2 hkT (r := A.1 (103 * (h : Int) + 8)) (by have := hS.1; omega)).trans (bI_f (hS.2.2.2 (by omega)).2))) ky_X6_stamp ki_X6_stamp ks2_X6_stamp lk_L_50 hXo1 rfl rfl (Nat.le_of_ble_eq_true rfl) ⟨by decide, by decide⟩ rfl rfl (Nat.le_of_ble_eq_true rfl) d_L_isCrossedSo_235 ?_
                  refine V.ifne g0 d_L_isCrossedSo_238 (by omega) (fun c_238 => ?_) (fun c_238 => ?_)
                  · skip
                    exfalso; omega
                  · skip
                    refine V.al0 g0 d_L_isCrossedSo_241 ?_
                    refine V.il2 g0 d_L_isCrossedSo_242 ?_
                    refine V.iconst g0 d_L_isCrossedSo_243 ?_
                    refine V.callVp g0 (MT.ans (c_X6_holders hXo1 hXn1 (by constructor <;> omega) (by decide)) (hldq hc)) ky_X6_holders ki_X6_holders ks2_X6_holders lk_L_69 hXo1 rfl rfl (Nat.le_of_ble_eq_true rfl) ⟨by decide, by decide⟩ rfl rfl (Nat.le_of_ble_eq_true rfl) d_L_isCrossedSo_244 ?_
                    have hlb := hldN_b (s := crossS A.1 (h : Int) c f) (c := c) (t := 0) (crossS A.1 (h : Int) c f 619).toNat (by omega)
                    have htb : (hldN (crossS A.1 (h : Int) c f) c 0 (crossS A.1 (h : Int) c f 619).toNat).testBit h = true := (hldN_tb _).mpr ⟨by omega, by rw [if_pos rfl]; exact hS.2.1⟩
                    have hdv := tb_pos htb
                    have hdl := Nat.div_le_self (hldN (crossS A.1 (h : Int) c f) c 0 (crossS A.1 (h : Int) c f 619).toNat) (2 ^ h)
                    refine V.il1 g0 d_L_isCrossedSo_247 ?_
                    refine V.bipush g0 d_L_isCrossedSo_248 (by decide) ?_
                    refine V.irem g0 d_L_isCrossedSo_250 (by omega) (by decide) ?_
                    refine V.ishr g0 d_L_isCrossedSo_251 (shr8 hlb (by omega)) ?_
                    generalize hldN (crossS A.1 (h : Int) c f) c 0 (crossS A.1 (h : Int) c f 619).toNat / 2 ^ h = dv at hdv hdl ⊢
                    refine V.ifle g0 d_L_isCrossedSo_252 (by omega) (fun c_252 => ?_) (fun c_252 => ?_)
                    · skip
                      exfalso; omega
                    · skip
                      refine V.iconst g0 d_L_isCrossedSo_255 ?_
                      refine V.goto g0 d_L_isCrossedSo_256 ?_
                      refine V.is10 g0 d_L_isCrossedSo_260 ?_
                      refine V.il10 g0 d_L_isCrossedSo_262 ?_
                      refine V.ifeq g0 d_L_isCrossedSo_264 (by omega) (fun c_264 => ?_) (fun c_264 => ?_)
                      · skip
                        exfalso; omega
                      · skip
                        refine V.al0 g0 d_L_isCrossedSo_267 ?_
                        refine V.callV g0 (c_X6_undo hX1) ky_X6_undo ki_X6_undo ks2_X6_undo lk_L_73 hXo1 rfl rfl (Nat.le_of_ble_eq_true rfl) ⟨by decide, by decide⟩ rfl rfl (Nat.le_of_ble_eq_true rfl) d_L_isCrossedSo_268 (fun v_268 n_268 M_268 h_268 => ?_)
                        obtain ⟨rfl, hn2, hX2, hf2⟩ := h_268
                        have hu := undo_rec (A := A) (t := crossS A.1 (h : Int) c f) hkn
                        have hub : 0 ≤ (a_undo (recA A (crossS A.1 (h : Int) c f))).1 ∧ (a_undo (recA A (crossS A.1 (h : Int) c f))).1 ≤ 4 := by
                          rw [hu.1]
                          split <;> omega
                        obtain ⟨fs2, hXo2, hXn2⟩ := hX2.now
                        rw [hu.2] at hXn2
                        refine V.iflt g0 d_L_isCrossedSo_271 (by omega) (fun c_271 => ?_) (fun c_271 => ?_)
                        · skip
                          exfalso; omega
                        · skip
                          refine V.al0 g0 d_L_isCrossedSo_274 ?_
                          refine V.il1 g0 d_L_isCrossedSo_275 ?_
                          refine V.iconst g0 d_L_isCrossedSo_276 ?_
                          refine V.callVp g0 (MT.ans (c_X6_passport hXo2 hXn2 hkr (by decide)) (pas1 hk)) ky_X6_passport ki_X6_passport ks2_X6_passport lk_L_47 hXo2 rfl rfl (Nat.le_of_ble_eq_true rfl) ⟨by decide, by decide⟩ rfl rfl (Nat.le_of_ble_eq_true rfl) d_L_isCrossedSo_277 ?_
                          refine V.il6 g0 d_L_isCrossedSo_280 ?_
                          refine V.sameNe g0 d_L_isCrossedSo_282 ?_
                          refine V.al0 g0 d_L_isCrossedSo_285 ?_
                          refine V.il1 g0 d_L_isCrossedSo_286 ?_
                          refine V.iconst g0 d_L_isCrossedSo_287 ?_
                          refine V.callVp g0 (MT.ans (c_X6_passport hXo2 hXn2 hkr (by decide)) (pas3 hk)) ky_X6_passport ki_X6_passport ks2_X6_passport lk_L_47 hXo2 rfl rfl (Nat.le_of_ble_eq_true rfl) ⟨by decide, by decide⟩ rfl rfl (Nat.le_of_ble_eq_true rfl) d_L_isCrossedSo_288 ?_
                          refine V.il5 g0 d_L_isCrossedSo_291 ?_
                          refine V.sameNe g0 d_L_isCrossedSo_293 ?_
                          refine V.al0 g0 d_L_isCrossedSo_296 ?_
                          refine V.bipush g0 d_L_isCrossedSo_297 (by decide) ?_
                          refine V.callVp g0 (MT.ans (q6_count hX2 (by decide)) (show _ = A.1 621 from cnt9.trans (by rw [hu.2]))) ky_X6_count ki_X6_count ks2_X6_count lk_L_14 hXo2 rfl rfl (Nat.le_of_ble_eq_true rfl) ⟨by decide, by decide⟩ rfl rfl (Nat.le_of_ble_eq_true rfl) d_L_isCrossedSo_299 ?_
                          refine V.il8 g0 d_L_isCrossedSo_302 ?_
                          refine V.sameNe g0 d_L_isCrossedSo_304 ?_
                          refine V.iconst g0 d_L_isCrossedSo_307 ?_
                          refine V.goto g0 d_L_isCrossedSo_308 ?_
                          refine V.zret g d_L_isCrossedSo_312 (by first | exact Or.inl rfl | exact Or.inr rfl | exact bI_01 _) (by decide) (by decide) ?_
                          exact ⟨rfl, by omega, ⟨_, hu.2, hX2⟩, fun q a b => (hf2 q a (by omega)).trans (hf1 q a b)⟩
      · skip
        exfalso; omega
    · skip
      have hEs := (errCross_so hk hc5 hf).2 he
      have ea : a_cross A (h : Int) c f = (errCross A.1 (h : Int) c f, A) := if_pos he
      have e1 : (a_cross A (h : Int) c f).1 = errCross A.1 (h : Int) c f := congrArg Prod.fst ea
      have e2 : (a_cross A (h : Int) c f).2 = A := congrArg Prod.snd ea
      rw [e2] at hX1
      rw [e1]
      obtain ⟨fs1, hXo1, hXn1⟩ := hX1.now
      refine V.is9 g0 d_L_isCrossedSo_59 ?_
      refine V.il9 g0 d_L_isCrossedSo_61 ?_
      refine V.ifge g0 d_L_isCrossedSo_63 (by omega) (fun c_63 => ?_) (fun c_63 => ?_)
      · skip
        exfalso; omega
      · skip
        refine V.il9 g0 d_L_isCrossedSo_66 ?_
        refine V.bipush g0 d_L_isCrossedSo_68 (by decide) ?_
        refine V.icmpgt g0 d_L_isCrossedSo_70 (by omega) (fun c_70 => ?_) (fun c_70 => ?_)
        · skip
          exfalso; omega
        · skip
          refine V.il9 g0 d_L_isCrossedSo_73 ?_
          refine V.bipush g0 d_L_isCrossedSo_75 (by decide) ?_
          refine V.icmplt g0 d_L_isCrossedSo_77 (by omega) (fun c_77 => ?_) (fun c_77 => ?_)
          · skip
            exfalso; omega
          · skip
            refine V.il9 g0 d_L_isCrossedSo_80 ?_
            refine V.bipush g0 d_L_isCrossedSo_82 (by decide) ?_
            refine V.il4 g0 d_L_isCrossedSo_84 ?_
            refine V.isub g0 d_L_isCrossedSo_86 ?_
            refine V.icmpeq g0 d_L_isCrossedSo_87 (by omega) (fun c_87 => ?_) (fun c_87 => ?_)
            · skip
              refine V.al0 g0 d_L_isCrossedSo_103 ?_
              refine V.bipush g0 d_L_isCrossedSo_104 (by decide) ?_
              refine V.callVp g0 (MT.ans (q6_count hX1 (by decide)) cnt9) ky_X6_count ki_X6_count ks2_X6_count lk_L_14 hXo1 rfl rfl (Nat.le_of_ble_eq_true rfl) ⟨by decide, by decide⟩ rfl rfl (Nat.le_of_ble_eq_true rfl) d_L_isCrossedSo_106 ?_
              refine V.il8 g0 d_L_isCrossedSo_109 ?_
              refine V.sameNe g0 d_L_isCrossedSo_111 ?_
              refine V.al0 g0 d_L_isCrossedSo_114 ?_
              refine V.il1 g0 d_L_isCrossedSo_115 ?_
              refine V.iconst g0 d_L_isCrossedSo_116 ?_
              refine V.callVp g0 (MT.ans (c_X6_passport hXo1 hXn1 hkr (by decide)) (pas1 hk)) ky_X6_passport ki_X6_passport ks2_X6_passport lk_L_47 hXo1 rfl rfl (Nat.le_of_ble_eq_true rfl) ⟨by decide, by decide⟩ rfl rfl (Nat.le_of_ble_eq_true rfl) d_L_isCrossedSo_117 ?_
              refine V.il6 g0 d_L_isCrossedSo_120 ?_
              refine V.sameNe g0 d_L_isCrossedSo_122 ?_
              refine V.iconst g0 d_L_isCrossedSo_125 ?_
              refine V.goto g0 d_L_isCrossedSo_126 ?_
              refine V.zret g d_L_isCrossedSo_130 (by first | exact Or.inl rfl | exact Or.inr rfl | exact bI_01 _) (by decide) (by decide) ?_
              exact ⟨rfl, hn1, ⟨A, rfl, hX1⟩, hf1⟩
            · skip
              refine V.il4 g0 d_L_isCrossedSo_90 ?_
              refine V.iconst g0 d_L_isCrossedSo_92 ?_
              refine V.icmpne g0 d_L_isCrossedSo_93 (by omega) (fun c_93 => ?_) (fun c_93 => ?_)
              · skip
                exfalso; omega
              · skip
                refine V.il9 g0 d_L_isCrossedSo_96 ?_
                refine V.bipush g0 d_L_isCrossedSo_98 (by decide) ?_
                refine V.icmpne g0 d_L_isCrossedSo_100 (by omega) (fun c_100 => ?_) (fun c_100 => ?_)
                · skip
                  exfalso; omega
                · skip
                  refine V.al0 g0 d_L_isCrossedSo_103 ?_
                  refine V.bipush g0 d_L_isCrossedSo_104 (by decide) ?_
                  refine V.callVp g0 (MT.ans (q6_count hX1 (by decide)) cnt9) ky_X6_count ki_X6_count ks2_X6_count lk_L_14 hXo1 rfl rfl (Nat.le_of_ble_eq_true rfl) ⟨by decide, by decide⟩ rfl rfl (Nat.le_of_ble_eq_true rfl) d_L_isCrossedSo_106 ?_
                  refine V.il8 g0 d_L_isCrossedSo_109 ?_
                  refine V.sameNe g0 d_L_isCrossedSo_111 ?_
                  refine V.al0 g0 d_L_isCrossedSo_114 ?_
                  refine V.il1 g0 d_L_isCrossedSo_115 ?_
                  refine V.iconst g0 d_L_isCrossedSo_116 ?_
                  refine V.callVp g0 (MT.ans (c_X6_passport hXo1 hXn1 hkr (by decide)) (pas1 hk)) ky_X6_passport ki_X6_passport ks2_X6_passport lk_L_47 hXo1 rfl rfl (Nat.le_of_ble_eq_true rfl) ⟨by decide, by decide⟩ rfl rfl (Nat.le_of_ble_eq_true rfl) d_L_isCrossedSo_117 ?_
                  refine V.il6 g0 d_L_isCrossedSo_120 ?_
                  refine V.sameNe g0 d_L_isCrossedSo_122 ?_
                  refine V.iconst g0 d_L_isCrossedSo_125 ?_
                  refine V.goto g0 d_L_isCrossedSo_126 ?_
                  refine V.zret g d_L_isCrossedSo_130 (by first | exact Or.inl rfl | exact Or.inr rfl | exact bI_01 _) (by decide) (by decide) ?_
                  exact ⟨rfl, hn1, ⟨A, rfl, hX1⟩, hf1⟩
  refine V.il3 g0 d_L_isCrossedSo_24 ?_
  refine V.ifne g0 d_L_isCrossedSo_25 (by omega) (fun c_25 => ?_) (fun c_25 => ?_)
  · skip
    refine V.il3 g0 d_L_isCrossedSo_32 ?_
    refine V.iconst g0 d_L_isCrossedSo_33 ?_
    refine V.icmpne g0 d_L_isCrossedSo_34 (by omega) (fun c_34 => ?_) (fun c_34 => ?_)
    · skip
      refine V.iconst g0 d_L_isCrossedSo_41 ?_
      exact V.eqS1 (show (1 : Int) = 2 - f % 2 - f / 2 by omega) J1
    · skip
      refine V.iconst g0 d_L_isCrossedSo_37 ?_
      refine V.goto g0 d_L_isCrossedSo_38 ?_
      exact V.eqS1 (show (0 : Int) = 2 - f % 2 - f / 2 by omega) J1
  · skip
    refine V.iconst g0 d_L_isCrossedSo_28 ?_
    refine V.goto g0 d_L_isCrossedSo_29 ?_
    exact V.eqS1 (show (2 : Int) = 2 - f % 2 - f / 2 by omega) J1
