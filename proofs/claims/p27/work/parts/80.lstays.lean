theorem V.eqT {E : Ev} {X : Cx} {nc ns n pc : Nat} {M : Mem} {lc : List (Option Value)} {st : List Value} {x : Value} {a b : Int} (h : a = b) (k : V E X nc ns n M pc lc (x :: .int (iI b) :: st)) : V E X nc ns n M pc lc (x :: .int (iI a) :: st) := h ▸ k
theorem d_L_areStaysSo_0 : Dc cL_areStaysSo 0 1 1 (.aload_n 0) := ⟨by decide +kernel, rfl⟩
theorem d_L_areStaysSo_1 : Dc cL_areStaysSo 1 1 2 (.iconst 0) := ⟨by decide +kernel, rfl⟩
theorem d_L_areStaysSo_2 : Dc cL_areStaysSo 2 3 5 (.invokevirtual 14) := ⟨by decide +kernel, rfl⟩
theorem d_L_areStaysSo_5 : Dc cL_areStaysSo 5 1 6 (.istore_n 2) := ⟨by decide +kernel, rfl⟩
theorem d_L_areStaysSo_6 : Dc cL_areStaysSo 6 1 7 (.iconst 0) := ⟨by decide +kernel, rfl⟩
theorem d_L_areStaysSo_7 : Dc cL_areStaysSo 7 1 8 (.istore_n 3) := ⟨by decide +kernel, rfl⟩
theorem d_L_areStaysSo_8 : Dc cL_areStaysSo 8 1 9 (.iconst 0) := ⟨by decide +kernel, rfl⟩
theorem d_L_areStaysSo_9 : Dc cL_areStaysSo 9 2 11 (.istore 4) := ⟨by decide +kernel, rfl⟩
theorem d_L_areStaysSo_11 : Dc cL_areStaysSo 11 1 12 (.iconst 0) := ⟨by decide +kernel, rfl⟩
theorem d_L_areStaysSo_12 : Dc cL_areStaysSo 12 2 14 (.istore 5) := ⟨by decide +kernel, rfl⟩
theorem d_L_areStaysSo_14 : Dc cL_areStaysSo 14 1 15 (.iconst 1) := ⟨by decide +kernel, rfl⟩
theorem d_L_areStaysSo_15 : Dc cL_areStaysSo 15 2 17 (.istore 6) := ⟨by decide +kernel, rfl⟩
theorem d_L_areStaysSo_17 : Dc cL_areStaysSo 17 1 18 (.iconst 0) := ⟨by decide +kernel, rfl⟩
theorem d_L_areStaysSo_18 : Dc cL_areStaysSo 18 2 20 (.istore 7) := ⟨by decide +kernel, rfl⟩
theorem d_L_areStaysSo_20 : Dc cL_areStaysSo 20 2 22 (.iload 7) := ⟨by decide +kernel, rfl⟩
theorem d_L_areStaysSo_22 : Dc cL_areStaysSo 22 2 24 (.bipush 6) := ⟨by decide +kernel, rfl⟩
theorem d_L_areStaysSo_24 : Dj cL_areStaysSo 24 27 469 (.if_icmp .ge) := ⟨445, by decide +kernel, rfl, by decide⟩
theorem d_L_areStaysSo_27 : Dc cL_areStaysSo 27 1 28 (.aload_n 0) := ⟨by decide +kernel, rfl⟩
theorem d_L_areStaysSo_28 : Dc cL_areStaysSo 28 1 29 (.iload_n 1) := ⟨by decide +kernel, rfl⟩
theorem d_L_areStaysSo_29 : Dc cL_areStaysSo 29 1 30 (.iconst 0) := ⟨by decide +kernel, rfl⟩
theorem d_L_areStaysSo_30 : Dc cL_areStaysSo 30 3 33 (.invokevirtual 47) := ⟨by decide +kernel, rfl⟩
theorem d_L_areStaysSo_33 : Dc cL_areStaysSo 33 2 35 (.iload 7) := ⟨by decide +kernel, rfl⟩
theorem d_L_areStaysSo_35 : Dj cL_areStaysSo 35 38 42 (.if_icmp .ne) := ⟨7, by decide +kernel, rfl, by decide⟩
theorem d_L_areStaysSo_38 : Dc cL_areStaysSo 38 1 39 (.iconst 1) := ⟨by decide +kernel, rfl⟩
theorem d_L_areStaysSo_39 : Dj cL_areStaysSo 39 42 43 .goto := ⟨4, by decide +kernel, rfl, by decide⟩
theorem d_L_areStaysSo_42 : Dc cL_areStaysSo 42 1 43 (.iconst 0) := ⟨by decide +kernel, rfl⟩
theorem d_L_areStaysSo_43 : Dc cL_areStaysSo 43 2 45 (.istore 8) := ⟨by decide +kernel, rfl⟩
theorem d_L_areStaysSo_45 : Dc cL_areStaysSo 45 1 46 (.aload_n 0) := ⟨by decide +kernel, rfl⟩
theorem d_L_areStaysSo_46 : Dc cL_areStaysSo 46 1 47 (.iload_n 1) := ⟨by decide +kernel, rfl⟩
theorem d_L_areStaysSo_47 : Dc cL_areStaysSo 47 2 49 (.iload 7) := ⟨by decide +kernel, rfl⟩
theorem d_L_areStaysSo_49 : Dc cL_areStaysSo 49 1 50 (.iconst 2) := ⟨by decide +kernel, rfl⟩
theorem d_L_areStaysSo_50 : Dc cL_areStaysSo 50 3 53 (.invokevirtual 53) := ⟨by decide +kernel, rfl⟩
theorem d_L_areStaysSo_53 : Dc cL_areStaysSo 53 2 55 (.istore 9) := ⟨by decide +kernel, rfl⟩
theorem d_L_areStaysSo_55 : Dc cL_areStaysSo 55 1 56 (.aload_n 0) := ⟨by decide +kernel, rfl⟩
theorem d_L_areStaysSo_56 : Dc cL_areStaysSo 56 1 57 (.iload_n 1) := ⟨by decide +kernel, rfl⟩
theorem d_L_areStaysSo_57 : Dc cL_areStaysSo 57 2 59 (.iload 7) := ⟨by decide +kernel, rfl⟩
theorem d_L_areStaysSo_59 : Dc cL_areStaysSo 59 1 60 (.iconst 3) := ⟨by decide +kernel, rfl⟩
theorem d_L_areStaysSo_60 : Dc cL_areStaysSo 60 3 63 (.invokevirtual 53) := ⟨by decide +kernel, rfl⟩
theorem d_L_areStaysSo_63 : Dc cL_areStaysSo 63 2 65 (.istore 10) := ⟨by decide +kernel, rfl⟩
theorem d_L_areStaysSo_65 : Dc cL_areStaysSo 65 1 66 (.aload_n 0) := ⟨by decide +kernel, rfl⟩
theorem d_L_areStaysSo_66 : Dc cL_areStaysSo 66 1 67 (.iload_n 1) := ⟨by decide +kernel, rfl⟩
theorem d_L_areStaysSo_67 : Dc cL_areStaysSo 67 2 69 (.iload 7) := ⟨by decide +kernel, rfl⟩
theorem d_L_areStaysSo_69 : Dc cL_areStaysSo 69 3 72 (.invokevirtual 56) := ⟨by decide +kernel, rfl⟩
theorem d_L_areStaysSo_72 : Dc cL_areStaysSo 72 2 74 (.istore 11) := ⟨by decide +kernel, rfl⟩
theorem d_L_areStaysSo_74 : Dc cL_areStaysSo 74 2 76 (.iload 8) := ⟨by decide +kernel, rfl⟩
theorem d_L_areStaysSo_76 : Dj cL_areStaysSo 76 79 98 (.ifCond .ne) := ⟨22, by decide +kernel, rfl, by decide⟩
theorem d_L_areStaysSo_79 : Dc cL_areStaysSo 79 1 80 (.aload_n 0) := ⟨by decide +kernel, rfl⟩
theorem d_L_areStaysSo_80 : Dc cL_areStaysSo 80 1 81 (.iload_n 1) := ⟨by decide +kernel, rfl⟩
theorem d_L_areStaysSo_81 : Dc cL_areStaysSo 81 2 83 (.iload 7) := ⟨by decide +kernel, rfl⟩
theorem d_L_areStaysSo_83 : Dc cL_areStaysSo 83 1 84 (.iconst 4) := ⟨by decide +kernel, rfl⟩
theorem d_L_areStaysSo_84 : Dc cL_areStaysSo 84 3 87 (.invokevirtual 53) := ⟨by decide +kernel, rfl⟩
theorem d_L_areStaysSo_87 : Dc cL_areStaysSo 87 1 88 (.iconst 1) := ⟨by decide +kernel, rfl⟩
theorem d_L_areStaysSo_88 : Dj cL_areStaysSo 88 91 102 (.if_icmp .ne) := ⟨14, by decide +kernel, rfl, by decide⟩
theorem d_L_areStaysSo_91 : Dc cL_areStaysSo 91 2 93 (.iload 10) := ⟨by decide +kernel, rfl⟩
theorem d_L_areStaysSo_93 : Dc cL_areStaysSo 93 2 95 (.iload 9) := ⟨by decide +kernel, rfl⟩
theorem d_L_areStaysSo_95 : Dj cL_areStaysSo 95 98 102 (.if_icmp .ge) := ⟨7, by decide +kernel, rfl, by decide⟩
theorem d_L_areStaysSo_98 : Dc cL_areStaysSo 98 1 99 (.iconst 1) := ⟨by decide +kernel, rfl⟩
theorem d_L_areStaysSo_99 : Dj cL_areStaysSo 99 102 103 .goto := ⟨4, by decide +kernel, rfl, by decide⟩
theorem d_L_areStaysSo_102 : Dc cL_areStaysSo 102 1 103 (.iconst 0) := ⟨by decide +kernel, rfl⟩
theorem d_L_areStaysSo_103 : Dc cL_areStaysSo 103 2 105 (.istore 12) := ⟨by decide +kernel, rfl⟩
theorem d_L_areStaysSo_105 : Dc cL_areStaysSo 105 1 106 (.iload_n 3) := ⟨by decide +kernel, rfl⟩
theorem d_L_areStaysSo_106 : Dc cL_areStaysSo 106 1 107 (.aload_n 0) := ⟨by decide +kernel, rfl⟩
theorem d_L_areStaysSo_107 : Dc cL_areStaysSo 107 1 108 (.iload_n 1) := ⟨by decide +kernel, rfl⟩
theorem d_L_areStaysSo_108 : Dc cL_areStaysSo 108 2 110 (.iload 7) := ⟨by decide +kernel, rfl⟩
theorem d_L_areStaysSo_110 : Dc cL_areStaysSo 110 1 111 (.iconst 0) := ⟨by decide +kernel, rfl⟩
theorem d_L_areStaysSo_111 : Dc cL_areStaysSo 111 3 114 (.sipush 999) := ⟨by decide +kernel, rfl⟩
theorem d_L_areStaysSo_114 : Dc cL_areStaysSo 114 1 115 (.iconst 0) := ⟨by decide +kernel, rfl⟩
theorem d_L_areStaysSo_115 : Dc cL_areStaysSo 115 3 118 (.invokevirtual 59) := ⟨by decide +kernel, rfl⟩
theorem d_L_areStaysSo_118 : Dc cL_areStaysSo 118 1 119 .iadd := ⟨by decide +kernel, rfl⟩
theorem d_L_areStaysSo_119 : Dc cL_areStaysSo 119 1 120 (.istore_n 3) := ⟨by decide +kernel, rfl⟩
theorem d_L_areStaysSo_120 : Dc cL_areStaysSo 120 2 122 (.iload 4) := ⟨by decide +kernel, rfl⟩
theorem d_L_areStaysSo_122 : Dc cL_areStaysSo 122 2 124 (.iload 9) := ⟨by decide +kernel, rfl⟩
theorem d_L_areStaysSo_124 : Dj cL_areStaysSo 124 127 131 (.ifCond .le) := ⟨7, by decide +kernel, rfl, by decide⟩
theorem d_L_areStaysSo_127 : Dc cL_areStaysSo 127 1 128 (.iconst 1) := ⟨by decide +kernel, rfl⟩
theorem d_L_areStaysSo_128 : Dj cL_areStaysSo 128 131 132 .goto := ⟨4, by decide +kernel, rfl, by decide⟩
theorem d_L_areStaysSo_131 : Dc cL_areStaysSo 131 1 132 (.iconst 0) := ⟨by decide +kernel, rfl⟩
theorem d_L_areStaysSo_132 : Dc cL_areStaysSo 132 1 133 .iadd := ⟨by decide +kernel, rfl⟩
theorem d_L_areStaysSo_133 : Dc cL_areStaysSo 133 2 135 (.istore 4) := ⟨by decide +kernel, rfl⟩
theorem d_L_areStaysSo_135 : Dc cL_areStaysSo 135 2 137 (.iload 5) := ⟨by decide +kernel, rfl⟩
theorem d_L_areStaysSo_137 : Dc cL_areStaysSo 137 1 138 (.aload_n 0) := ⟨by decide +kernel, rfl⟩
theorem d_L_areStaysSo_138 : Dc cL_areStaysSo 138 1 139 (.iload_n 1) := ⟨by decide +kernel, rfl⟩
theorem d_L_areStaysSo_139 : Dc cL_areStaysSo 139 2 141 (.iload 7) := ⟨by decide +kernel, rfl⟩
theorem d_L_areStaysSo_141 : Dc cL_areStaysSo 141 1 142 (.iconst 4) := ⟨by decide +kernel, rfl⟩
theorem d_L_areStaysSo_142 : Dc cL_areStaysSo 142 3 145 (.invokevirtual 53) := ⟨by decide +kernel, rfl⟩
theorem d_L_areStaysSo_145 : Dc cL_areStaysSo 145 1 146 (.iconst 1) := ⟨by decide +kernel, rfl⟩
theorem d_L_areStaysSo_146 : Dj cL_areStaysSo 146 149 153 (.if_icmp .ne) := ⟨7, by decide +kernel, rfl, by decide⟩
theorem d_L_areStaysSo_149 : Dc cL_areStaysSo 149 1 150 (.iconst 1) := ⟨by decide +kernel, rfl⟩
theorem d_L_areStaysSo_150 : Dj cL_areStaysSo 150 153 154 .goto := ⟨4, by decide +kernel, rfl, by decide⟩
theorem d_L_areStaysSo_153 : Dc cL_areStaysSo 153 1 154 (.iconst 0) := ⟨by decide +kernel, rfl⟩
theorem d_L_areStaysSo_154 : Dc cL_areStaysSo 154 1 155 .iadd := ⟨by decide +kernel, rfl⟩
theorem d_L_areStaysSo_155 : Dc cL_areStaysSo 155 2 157 (.istore 5) := ⟨by decide +kernel, rfl⟩
theorem d_L_areStaysSo_157 : Dc cL_areStaysSo 157 2 159 (.iload 6) := ⟨by decide +kernel, rfl⟩
theorem d_L_areStaysSo_159 : Dj cL_areStaysSo 159 162 460 (.ifCond .eq) := ⟨301, by decide +kernel, rfl, by decide⟩
theorem d_L_areStaysSo_162 : Dc cL_areStaysSo 162 1 163 (.aload_n 0) := ⟨by decide +kernel, rfl⟩
theorem d_L_areStaysSo_163 : Dc cL_areStaysSo 163 1 164 (.iload_n 1) := ⟨by decide +kernel, rfl⟩
theorem d_L_areStaysSo_164 : Dc cL_areStaysSo 164 2 166 (.iload 7) := ⟨by decide +kernel, rfl⟩
theorem d_L_areStaysSo_166 : Dc cL_areStaysSo 166 1 167 (.iconst 0) := ⟨by decide +kernel, rfl⟩
theorem d_L_areStaysSo_167 : Dc cL_areStaysSo 167 3 170 (.sipush 999) := ⟨by decide +kernel, rfl⟩
theorem d_L_areStaysSo_170 : Dc cL_areStaysSo 170 1 171 (.iconst 1) := ⟨by decide +kernel, rfl⟩
theorem d_L_areStaysSo_171 : Dc cL_areStaysSo 171 3 174 (.invokevirtual 59) := ⟨by decide +kernel, rfl⟩
theorem d_L_areStaysSo_174 : Dc cL_areStaysSo 174 1 175 (.iload_n 2) := ⟨by decide +kernel, rfl⟩
theorem d_L_areStaysSo_175 : Dj cL_areStaysSo 175 178 460 (.if_icmp .gt) := ⟨285, by decide +kernel, rfl, by decide⟩
theorem d_L_areStaysSo_178 : Dc cL_areStaysSo 178 2 180 (.iload 9) := ⟨by decide +kernel, rfl⟩
theorem d_L_areStaysSo_180 : Dj cL_areStaysSo 180 183 205 (.ifCond .ge) := ⟨25, by decide +kernel, rfl, by decide⟩
theorem d_L_areStaysSo_183 : Dc cL_areStaysSo 183 2 185 (.iload 10) := ⟨by decide +kernel, rfl⟩
theorem d_L_areStaysSo_185 : Dc cL_areStaysSo 185 2 187 (.bipush (-5)) := ⟨by decide +kernel, rfl⟩
theorem d_L_areStaysSo_187 : Dj cL_areStaysSo 187 190 460 (.if_icmp .ne) := ⟨273, by decide +kernel, rfl, by decide⟩
theorem d_L_areStaysSo_190 : Dc cL_areStaysSo 190 1 191 (.aload_n 0) := ⟨by decide +kernel, rfl⟩
theorem d_L_areStaysSo_191 : Dc cL_areStaysSo 191 1 192 (.iload_n 1) := ⟨by decide +kernel, rfl⟩
theorem d_L_areStaysSo_192 : Dc cL_areStaysSo 192 2 194 (.iload 7) := ⟨by decide +kernel, rfl⟩
theorem d_L_areStaysSo_194 : Dc cL_areStaysSo 194 3 197 (.invokevirtual 63) := ⟨by decide +kernel, rfl⟩
theorem d_L_areStaysSo_197 : Dc cL_areStaysSo 197 2 199 (.bipush (-5)) := ⟨by decide +kernel, rfl⟩
theorem d_L_areStaysSo_199 : Dj cL_areStaysSo 199 202 460 (.if_icmp .ne) := ⟨261, by decide +kernel, rfl, by decide⟩
theorem d_L_areStaysSo_202 : Dj cL_areStaysSo 202 205 352 .goto := ⟨150, by decide +kernel, rfl, by decide⟩
theorem d_L_areStaysSo_205 : Dc cL_areStaysSo 205 2 207 (.iload 8) := ⟨by decide +kernel, rfl⟩
theorem d_L_areStaysSo_207 : Dj cL_areStaysSo 207 210 460 (.ifCond .ne) := ⟨253, by decide +kernel, rfl, by decide⟩
theorem d_L_areStaysSo_210 : Dc cL_areStaysSo 210 2 212 (.iload 10) := ⟨by decide +kernel, rfl⟩
theorem d_L_areStaysSo_212 : Dc cL_areStaysSo 212 1 213 (.aload_n 0) := ⟨by decide +kernel, rfl⟩
theorem d_L_areStaysSo_213 : Dc cL_areStaysSo 213 1 214 (.iload_n 1) := ⟨by decide +kernel, rfl⟩
theorem d_L_areStaysSo_214 : Dc cL_areStaysSo 214 2 216 (.iload 7) := ⟨by decide +kernel, rfl⟩
theorem d_L_areStaysSo_216 : Dc cL_areStaysSo 216 1 217 (.aload_n 0) := ⟨by decide +kernel, rfl⟩
theorem d_L_areStaysSo_217 : Dc cL_areStaysSo 217 1 218 (.iload_n 1) := ⟨by decide +kernel, rfl⟩
theorem d_L_areStaysSo_218 : Dc cL_areStaysSo 218 2 220 (.iload 7) := ⟨by decide +kernel, rfl⟩
theorem d_L_areStaysSo_220 : Dc cL_areStaysSo 220 1 221 (.iconst 0) := ⟨by decide +kernel, rfl⟩
theorem d_L_areStaysSo_221 : Dc cL_areStaysSo 221 3 224 (.invokevirtual 53) := ⟨by decide +kernel, rfl⟩
theorem d_L_areStaysSo_224 : Dc cL_areStaysSo 224 1 225 (.aload_n 0) := ⟨by decide +kernel, rfl⟩
theorem d_L_areStaysSo_225 : Dc cL_areStaysSo 225 1 226 (.iload_n 1) := ⟨by decide +kernel, rfl⟩
theorem d_L_areStaysSo_226 : Dc cL_areStaysSo 226 2 228 (.iload 7) := ⟨by decide +kernel, rfl⟩
theorem d_L_areStaysSo_228 : Dc cL_areStaysSo 228 1 229 (.iconst 1) := ⟨by decide +kernel, rfl⟩
theorem d_L_areStaysSo_229 : Dc cL_areStaysSo 229 3 232 (.invokevirtual 53) := ⟨by decide +kernel, rfl⟩
theorem d_L_areStaysSo_232 : Dc cL_areStaysSo 232 1 233 (.iconst 1) := ⟨by decide +kernel, rfl⟩
theorem d_L_areStaysSo_233 : Dc cL_areStaysSo 233 3 236 (.invokevirtual 59) := ⟨by decide +kernel, rfl⟩
theorem d_L_areStaysSo_236 : Dj cL_areStaysSo 236 239 460 (.if_icmp .ne) := ⟨224, by decide +kernel, rfl, by decide⟩
theorem d_L_areStaysSo_239 : Dc cL_areStaysSo 239 1 240 (.aload_n 0) := ⟨by decide +kernel, rfl⟩
theorem d_L_areStaysSo_240 : Dc cL_areStaysSo 240 1 241 (.iload_n 1) := ⟨by decide +kernel, rfl⟩
theorem d_L_areStaysSo_241 : Dc cL_areStaysSo 241 2 243 (.iload 7) := ⟨by decide +kernel, rfl⟩
theorem d_L_areStaysSo_243 : Dc cL_areStaysSo 243 3 246 (.invokevirtual 63) := ⟨by decide +kernel, rfl⟩
theorem d_L_areStaysSo_246 : Dj cL_areStaysSo 246 249 460 (.ifCond .lt) := ⟨214, by decide +kernel, rfl, by decide⟩
theorem d_L_areStaysSo_249 : Dc cL_areStaysSo 249 1 250 (.aload_n 0) := ⟨by decide +kernel, rfl⟩
theorem d_L_areStaysSo_250 : Dc cL_areStaysSo 250 1 251 (.iload_n 1) := ⟨by decide +kernel, rfl⟩
theorem d_L_areStaysSo_251 : Dc cL_areStaysSo 251 2 253 (.iload 7) := ⟨by decide +kernel, rfl⟩
theorem d_L_areStaysSo_253 : Dc cL_areStaysSo 253 3 256 (.invokevirtual 63) := ⟨by decide +kernel, rfl⟩
theorem d_L_areStaysSo_256 : Dc cL_areStaysSo 256 2 258 (.iload 9) := ⟨by decide +kernel, rfl⟩
theorem d_L_areStaysSo_258 : Dj cL_areStaysSo 258 261 460 (.if_icmp .gt) := ⟨202, by decide +kernel, rfl, by decide⟩
theorem d_L_areStaysSo_261 : Dc cL_areStaysSo 261 1 262 (.aload_n 0) := ⟨by decide +kernel, rfl⟩
theorem d_L_areStaysSo_262 : Dc cL_areStaysSo 262 1 263 (.iload_n 1) := ⟨by decide +kernel, rfl⟩
theorem d_L_areStaysSo_263 : Dc cL_areStaysSo 263 2 265 (.iload 7) := ⟨by decide +kernel, rfl⟩
theorem d_L_areStaysSo_265 : Dc cL_areStaysSo 265 1 266 (.iconst 4) := ⟨by decide +kernel, rfl⟩
theorem d_L_areStaysSo_266 : Dc cL_areStaysSo 266 3 269 (.invokevirtual 53) := ⟨by decide +kernel, rfl⟩
theorem d_L_areStaysSo_269 : Dc cL_areStaysSo 269 1 270 (.iconst 1) := ⟨by decide +kernel, rfl⟩
theorem d_L_areStaysSo_270 : Dj cL_areStaysSo 270 273 277 (.if_icmp .ne) := ⟨7, by decide +kernel, rfl, by decide⟩
theorem d_L_areStaysSo_273 : Dc cL_areStaysSo 273 1 274 (.iconst 1) := ⟨by decide +kernel, rfl⟩
theorem d_L_areStaysSo_274 : Dj cL_areStaysSo 274 277 278 .goto := ⟨4, by decide +kernel, rfl, by decide⟩
theorem d_L_areStaysSo_277 : Dc cL_areStaysSo 277 1 278 (.iconst 0) := ⟨by decide +kernel, rfl⟩
theorem d_L_areStaysSo_278 : Dc cL_areStaysSo 278 1 279 (.aload_n 0) := ⟨by decide +kernel, rfl⟩
theorem d_L_areStaysSo_279 : Dc cL_areStaysSo 279 1 280 (.iload_n 1) := ⟨by decide +kernel, rfl⟩
theorem d_L_areStaysSo_280 : Dc cL_areStaysSo 280 2 282 (.iload 7) := ⟨by decide +kernel, rfl⟩
theorem d_L_areStaysSo_282 : Dc cL_areStaysSo 282 1 283 (.iconst 0) := ⟨by decide +kernel, rfl⟩
theorem d_L_areStaysSo_283 : Dc cL_areStaysSo 283 3 286 (.invokevirtual 53) := ⟨by decide +kernel, rfl⟩
theorem d_L_areStaysSo_286 : Dc cL_areStaysSo 286 1 287 (.iload_n 2) := ⟨by decide +kernel, rfl⟩
theorem d_L_areStaysSo_287 : Dj cL_areStaysSo 287 290 306 (.if_icmp .gt) := ⟨19, by decide +kernel, rfl, by decide⟩
theorem d_L_areStaysSo_290 : Dc cL_areStaysSo 290 1 291 (.iload_n 2) := ⟨by decide +kernel, rfl⟩
theorem d_L_areStaysSo_291 : Dc cL_areStaysSo 291 1 292 (.aload_n 0) := ⟨by decide +kernel, rfl⟩
theorem d_L_areStaysSo_292 : Dc cL_areStaysSo 292 1 293 (.iload_n 1) := ⟨by decide +kernel, rfl⟩
theorem d_L_areStaysSo_293 : Dc cL_areStaysSo 293 2 295 (.iload 7) := ⟨by decide +kernel, rfl⟩
theorem d_L_areStaysSo_295 : Dc cL_areStaysSo 295 1 296 (.iconst 1) := ⟨by decide +kernel, rfl⟩
theorem d_L_areStaysSo_296 : Dc cL_areStaysSo 296 3 299 (.invokevirtual 53) := ⟨by decide +kernel, rfl⟩
theorem d_L_areStaysSo_299 : Dj cL_areStaysSo 299 302 306 (.if_icmp .gt) := ⟨7, by decide +kernel, rfl, by decide⟩
theorem d_L_areStaysSo_302 : Dc cL_areStaysSo 302 1 303 (.iconst 1) := ⟨by decide +kernel, rfl⟩
theorem d_L_areStaysSo_303 : Dj cL_areStaysSo 303 306 307 .goto := ⟨4, by decide +kernel, rfl, by decide⟩
theorem d_L_areStaysSo_306 : Dc cL_areStaysSo 306 1 307 (.iconst 0) := ⟨by decide +kernel, rfl⟩
theorem d_L_areStaysSo_307 : Dj cL_areStaysSo 307 310 460 (.if_icmp .ne) := ⟨153, by decide +kernel, rfl, by decide⟩
theorem d_L_areStaysSo_310 : Dc cL_areStaysSo 310 1 311 (.aload_n 0) := ⟨by decide +kernel, rfl⟩
theorem d_L_areStaysSo_311 : Dc cL_areStaysSo 311 1 312 (.iload_n 1) := ⟨by decide +kernel, rfl⟩
theorem d_L_areStaysSo_312 : Dc cL_areStaysSo 312 2 314 (.iload 7) := ⟨by decide +kernel, rfl⟩
theorem d_L_areStaysSo_314 : Dc cL_areStaysSo 314 3 317 (.invokevirtual 63) := ⟨by decide +kernel, rfl⟩
theorem d_L_areStaysSo_317 : Dj cL_areStaysSo 317 320 324 (.ifCond .ne) := ⟨7, by decide +kernel, rfl, by decide⟩
theorem d_L_areStaysSo_320 : Dc cL_areStaysSo 320 1 321 (.iconst 1) := ⟨by decide +kernel, rfl⟩
theorem d_L_areStaysSo_321 : Dj cL_areStaysSo 321 324 325 .goto := ⟨4, by decide +kernel, rfl, by decide⟩
theorem d_L_areStaysSo_324 : Dc cL_areStaysSo 324 1 325 (.iconst 0) := ⟨by decide +kernel, rfl⟩
theorem d_L_areStaysSo_325 : Dc cL_areStaysSo 325 2 327 (.iload 10) := ⟨by decide +kernel, rfl⟩
theorem d_L_areStaysSo_327 : Dc cL_areStaysSo 327 2 329 (.iload 9) := ⟨by decide +kernel, rfl⟩
theorem d_L_areStaysSo_329 : Dj cL_areStaysSo 329 332 344 (.if_icmp .ge) := ⟨15, by decide +kernel, rfl, by decide⟩
theorem d_L_areStaysSo_332 : Dc cL_areStaysSo 332 1 333 (.aload_n 0) := ⟨by decide +kernel, rfl⟩
theorem d_L_areStaysSo_333 : Dc cL_areStaysSo 333 1 334 (.iload_n 1) := ⟨by decide +kernel, rfl⟩
theorem d_L_areStaysSo_334 : Dc cL_areStaysSo 334 2 336 (.iload 7) := ⟨by decide +kernel, rfl⟩
theorem d_L_areStaysSo_336 : Dc cL_areStaysSo 336 1 337 (.iconst 1) := ⟨by decide +kernel, rfl⟩
theorem d_L_areStaysSo_337 : Dc cL_areStaysSo 337 3 340 (.invokevirtual 53) := ⟨by decide +kernel, rfl⟩
theorem d_L_areStaysSo_340 : Dc cL_areStaysSo 340 1 341 (.iload_n 2) := ⟨by decide +kernel, rfl⟩
theorem d_L_areStaysSo_341 : Dj cL_areStaysSo 341 344 348 (.if_icmp .ge) := ⟨7, by decide +kernel, rfl, by decide⟩
theorem d_L_areStaysSo_344 : Dc cL_areStaysSo 344 1 345 (.iconst 1) := ⟨by decide +kernel, rfl⟩
theorem d_L_areStaysSo_345 : Dj cL_areStaysSo 345 348 349 .goto := ⟨4, by decide +kernel, rfl, by decide⟩
theorem d_L_areStaysSo_348 : Dc cL_areStaysSo 348 1 349 (.iconst 0) := ⟨by decide +kernel, rfl⟩
theorem d_L_areStaysSo_349 : Dj cL_areStaysSo 349 352 460 (.if_icmp .ne) := ⟨111, by decide +kernel, rfl, by decide⟩
theorem d_L_areStaysSo_352 : Dc cL_areStaysSo 352 2 354 (.iload 11) := ⟨by decide +kernel, rfl⟩
theorem d_L_areStaysSo_354 : Dj cL_areStaysSo 354 357 460 (.ifCond .lt) := ⟨106, by decide +kernel, rfl, by decide⟩
theorem d_L_areStaysSo_357 : Dc cL_areStaysSo 357 2 359 (.iload 11) := ⟨by decide +kernel, rfl⟩
theorem d_L_areStaysSo_359 : Dc cL_areStaysSo 359 2 361 (.bipush 7) := ⟨by decide +kernel, rfl⟩
theorem d_L_areStaysSo_361 : Dj cL_areStaysSo 361 364 460 (.if_icmp .ge) := ⟨99, by decide +kernel, rfl, by decide⟩
theorem d_L_areStaysSo_364 : Dc cL_areStaysSo 364 2 366 (.iload 11) := ⟨by decide +kernel, rfl⟩
theorem d_L_areStaysSo_366 : Dc cL_areStaysSo 366 1 367 (.iconst 1) := ⟨by decide +kernel, rfl⟩
theorem d_L_areStaysSo_367 : Dj cL_areStaysSo 367 370 374 (.if_icmp .ne) := ⟨7, by decide +kernel, rfl, by decide⟩
theorem d_L_areStaysSo_370 : Dc cL_areStaysSo 370 1 371 (.iconst 1) := ⟨by decide +kernel, rfl⟩
theorem d_L_areStaysSo_371 : Dj cL_areStaysSo 371 374 375 .goto := ⟨4, by decide +kernel, rfl, by decide⟩
theorem d_L_areStaysSo_374 : Dc cL_areStaysSo 374 1 375 (.iconst 0) := ⟨by decide +kernel, rfl⟩
theorem d_L_areStaysSo_375 : Dc cL_areStaysSo 375 1 376 (.aload_n 0) := ⟨by decide +kernel, rfl⟩
theorem d_L_areStaysSo_376 : Dc cL_areStaysSo 376 1 377 (.iload_n 1) := ⟨by decide +kernel, rfl⟩
theorem d_L_areStaysSo_377 : Dc cL_areStaysSo 377 1 378 (.iconst 1) := ⟨by decide +kernel, rfl⟩
theorem d_L_areStaysSo_378 : Dc cL_areStaysSo 378 3 381 (.invokevirtual 47) := ⟨by decide +kernel, rfl⟩
theorem d_L_areStaysSo_381 : Dc cL_areStaysSo 381 2 383 (.iload 7) := ⟨by decide +kernel, rfl⟩
theorem d_L_areStaysSo_383 : Dj cL_areStaysSo 383 386 390 (.if_icmp .ne) := ⟨7, by decide +kernel, rfl, by decide⟩
theorem d_L_areStaysSo_386 : Dc cL_areStaysSo 386 1 387 (.iconst 1) := ⟨by decide +kernel, rfl⟩
theorem d_L_areStaysSo_387 : Dj cL_areStaysSo 387 390 391 .goto := ⟨4, by decide +kernel, rfl, by decide⟩
theorem d_L_areStaysSo_390 : Dc cL_areStaysSo 390 1 391 (.iconst 0) := ⟨by decide +kernel, rfl⟩
theorem d_L_areStaysSo_391 : Dj cL_areStaysSo 391 394 460 (.if_icmp .ne) := ⟨69, by decide +kernel, rfl, by decide⟩
theorem d_L_areStaysSo_394 : Dc cL_areStaysSo 394 2 396 (.iload 11) := ⟨by decide +kernel, rfl⟩
theorem d_L_areStaysSo_396 : Dc cL_areStaysSo 396 1 397 (.iconst 3) := ⟨by decide +kernel, rfl⟩
theorem d_L_areStaysSo_397 : Dj cL_areStaysSo 397 400 411 (.if_icmp .lt) := ⟨14, by decide +kernel, rfl, by decide⟩
theorem d_L_areStaysSo_400 : Dc cL_areStaysSo 400 2 402 (.iload 11) := ⟨by decide +kernel, rfl⟩
theorem d_L_areStaysSo_402 : Dc cL_areStaysSo 402 1 403 (.iconst 4) := ⟨by decide +kernel, rfl⟩
theorem d_L_areStaysSo_403 : Dj cL_areStaysSo 403 406 411 (.if_icmp .gt) := ⟨8, by decide +kernel, rfl, by decide⟩
theorem d_L_areStaysSo_406 : Dc cL_areStaysSo 406 2 408 (.iload 12) := ⟨by decide +kernel, rfl⟩
theorem d_L_areStaysSo_408 : Dj cL_areStaysSo 408 411 460 (.ifCond .ne) := ⟨52, by decide +kernel, rfl, by decide⟩
theorem d_L_areStaysSo_411 : Dc cL_areStaysSo 411 2 413 (.iload 11) := ⟨by decide +kernel, rfl⟩
theorem d_L_areStaysSo_413 : Dj cL_areStaysSo 413 416 421 (.ifCond .ne) := ⟨8, by decide +kernel, rfl, by decide⟩
theorem d_L_areStaysSo_416 : Dc cL_areStaysSo 416 2 418 (.iload 12) := ⟨by decide +kernel, rfl⟩
theorem d_L_areStaysSo_418 : Dj cL_areStaysSo 418 421 460 (.ifCond .eq) := ⟨42, by decide +kernel, rfl, by decide⟩
theorem d_L_areStaysSo_421 : Dc cL_areStaysSo 421 2 423 (.iload 11) := ⟨by decide +kernel, rfl⟩
theorem d_L_areStaysSo_423 : Dc cL_areStaysSo 423 1 424 (.iconst 5) := ⟨by decide +kernel, rfl⟩
theorem d_L_areStaysSo_424 : Dj cL_areStaysSo 424 427 438 (.if_icmp .ne) := ⟨14, by decide +kernel, rfl, by decide⟩
theorem d_L_areStaysSo_427 : Dc cL_areStaysSo 427 1 428 (.aload_n 0) := ⟨by decide +kernel, rfl⟩
theorem d_L_areStaysSo_428 : Dc cL_areStaysSo 428 1 429 (.iload_n 1) := ⟨by decide +kernel, rfl⟩
theorem d_L_areStaysSo_429 : Dc cL_areStaysSo 429 1 430 (.iconst 3) := ⟨by decide +kernel, rfl⟩
theorem d_L_areStaysSo_430 : Dc cL_areStaysSo 430 3 433 (.invokevirtual 47) := ⟨by decide +kernel, rfl⟩
theorem d_L_areStaysSo_433 : Dc cL_areStaysSo 433 2 435 (.bipush 14) := ⟨by decide +kernel, rfl⟩
theorem d_L_areStaysSo_435 : Dj cL_areStaysSo 435 438 460 (.if_icmp .le) := ⟨25, by decide +kernel, rfl, by decide⟩
theorem d_L_areStaysSo_438 : Dc cL_areStaysSo 438 2 440 (.iload 11) := ⟨by decide +kernel, rfl⟩
theorem d_L_areStaysSo_440 : Dc cL_areStaysSo 440 1 441 (.iconst 3) := ⟨by decide +kernel, rfl⟩
theorem d_L_areStaysSo_441 : Dj cL_areStaysSo 441 444 456 (.if_icmp .ne) := ⟨15, by decide +kernel, rfl, by decide⟩
theorem d_L_areStaysSo_444 : Dc cL_areStaysSo 444 1 445 (.aload_n 0) := ⟨by decide +kernel, rfl⟩
theorem d_L_areStaysSo_445 : Dc cL_areStaysSo 445 1 446 (.iload_n 1) := ⟨by decide +kernel, rfl⟩
theorem d_L_areStaysSo_446 : Dc cL_areStaysSo 446 2 448 (.iload 7) := ⟨by decide +kernel, rfl⟩
theorem d_L_areStaysSo_448 : Dc cL_areStaysSo 448 1 449 (.iconst 4) := ⟨by decide +kernel, rfl⟩
theorem d_L_areStaysSo_449 : Dc cL_areStaysSo 449 3 452 (.invokevirtual 53) := ⟨by decide +kernel, rfl⟩
theorem d_L_areStaysSo_452 : Dc cL_areStaysSo 452 1 453 (.iconst 1) := ⟨by decide +kernel, rfl⟩
theorem d_L_areStaysSo_453 : Dj cL_areStaysSo 453 456 460 (.if_icmp .eq) := ⟨7, by decide +kernel, rfl, by decide⟩
theorem d_L_areStaysSo_456 : Dc cL_areStaysSo 456 1 457 (.iconst 1) := ⟨by decide +kernel, rfl⟩
theorem d_L_areStaysSo_457 : Dj cL_areStaysSo 457 460 461 .goto := ⟨4, by decide +kernel, rfl, by decide⟩
theorem d_L_areStaysSo_460 : Dc cL_areStaysSo 460 1 461 (.iconst 0) := ⟨by decide +kernel, rfl⟩
theorem d_L_areStaysSo_461 : Dc cL_areStaysSo 461 2 463 (.istore 6) := ⟨by decide +kernel, rfl⟩
theorem d_L_areStaysSo_463 : Dc cL_areStaysSo 463 3 466 (.iinc 7 1) := ⟨by decide +kernel, rfl⟩
theorem d_L_areStaysSo_466 : Dj cL_areStaysSo 466 469 20 .goto := ⟨(-446), by decide +kernel, rfl, by decide⟩
theorem d_L_areStaysSo_469 : Dc cL_areStaysSo 469 2 471 (.iload 6) := ⟨by decide +kernel, rfl⟩
theorem d_L_areStaysSo_471 : Dj cL_areStaysSo 471 474 495 (.ifCond .eq) := ⟨24, by decide +kernel, rfl, by decide⟩
theorem d_L_areStaysSo_474 : Dc cL_areStaysSo 474 1 475 (.iload_n 3) := ⟨by decide +kernel, rfl⟩
theorem d_L_areStaysSo_475 : Dc cL_areStaysSo 475 1 476 (.iload_n 2) := ⟨by decide +kernel, rfl⟩
theorem d_L_areStaysSo_476 : Dj cL_areStaysSo 476 479 495 (.if_icmp .gt) := ⟨19, by decide +kernel, rfl, by decide⟩
theorem d_L_areStaysSo_479 : Dc cL_areStaysSo 479 2 481 (.iload 4) := ⟨by decide +kernel, rfl⟩
theorem d_L_areStaysSo_481 : Dc cL_areStaysSo 481 1 482 (.aload_n 0) := ⟨by decide +kernel, rfl⟩
theorem d_L_areStaysSo_482 : Dc cL_areStaysSo 482 1 483 (.iload_n 1) := ⟨by decide +kernel, rfl⟩
theorem d_L_areStaysSo_483 : Dc cL_areStaysSo 483 2 485 (.bipush 8) := ⟨by decide +kernel, rfl⟩
theorem d_L_areStaysSo_485 : Dc cL_areStaysSo 485 3 488 (.invokevirtual 47) := ⟨by decide +kernel, rfl⟩
theorem d_L_areStaysSo_488 : Dj cL_areStaysSo 488 491 495 (.if_icmp .ne) := ⟨7, by decide +kernel, rfl, by decide⟩
theorem d_L_areStaysSo_491 : Dc cL_areStaysSo 491 1 492 (.iconst 1) := ⟨by decide +kernel, rfl⟩
theorem d_L_areStaysSo_492 : Dj cL_areStaysSo 492 495 496 .goto := ⟨4, by decide +kernel, rfl, by decide⟩
theorem d_L_areStaysSo_495 : Dc cL_areStaysSo 495 1 496 (.iconst 0) := ⟨by decide +kernel, rfl⟩
theorem d_L_areStaysSo_496 : decode cL_areStaysSo 496 = .ok (.ireturn, 1) := by decide +kernel
set_option maxHeartbeats 4000000 in
set_option maxRecDepth 20000 in
theorem c_L_areStaysSo {E : Ev} {n : Nat} {M : Mem} {w o : Nat} {A : AS} (hX : XR E M w n o A) {e : Int} (hI : Inv A.1 e) (he : e ≤ 1000) {h : Nat} (hh : (h : Int) < A.1 619) : MT E yL_areStaysSo cL_areStaysSo 13 (some .boolean) 7 0 0 [.ref o, .int (iI (h : Int))] n M (PF (some (.int (iI (1)))) n M) := by
  refine MT.of (by decide) rfl (Nat.le_of_ble_eq_true rfl) ?_
  intro X g
  have g0 := g.1
  show V E X 0 0 n M 0 [some (.ref o), some (.int (iI (h : Int))), none, none, none, none, none, none, none, none, none, none, none] []
  obtain ⟨fs, hXo, hXn⟩ := hX.now
  have hO : Ok A.1 := hXn.ok
  have hm := hO.many
  have hdy := hO.day
  have hk : 0 ≤ (h : Int) ∧ (h : Int) < A.1 619 := ⟨by omega, hh⟩
  have hkr : rg (h : Int) := by constructor <;> omega
  have hkp := hO.at hk.1 hk.2
  have h8 := hkp.stm
  have h3 := hkp.crs
  have hw := hkp.whr
  have hhm := hkp.home
  have hbg := hkp.bgn
  obtain ⟨i1, i2, i3⟩ := hI.2.1 h hk.1 hk.2
  have hbp := bP_b hkp (A.1 (103 * (h : Int) + 8))
  refine V.al0 g0 d_L_areStaysSo_0 ?_
  refine V.iconst g0 d_L_areStaysSo_1 ?_
  refine V.callVp g0 (MT.ans (q6_count hX (by decide)) cnt0) ky_X6_count ki_X6_count ks2_X6_count lk_L_14 hXo rfl rfl (Nat.le_of_ble_eq_true rfl) ⟨Nat.zero_le _, Nat.zero_le _⟩ rfl rfl (Nat.le_of_ble_eq_true rfl) d_L_areStaysSo_2 ?_
  refine V.is2 g0 d_L_areStaysSo_5 ?_
  refine V.iconst g0 d_L_areStaysSo_6 ?_
  refine V.is3 g0 d_L_areStaysSo_7 ?_
  refine V.iconst g0 d_L_areStaysSo_8 ?_
  refine V.is4 g0 d_L_areStaysSo_9 ?_
  refine V.iconst g0 d_L_areStaysSo_11 ?_
  refine V.is5 g0 d_L_areStaysSo_12 ?_
  refine V.iconst g0 d_L_areStaysSo_14 ?_
  refine V.is6 g0 d_L_areStaysSo_15 ?_
  refine V.iconst g0 d_L_areStaysSo_17 ?_
  refine V.is7 g0 d_L_areStaysSo_18 ?_
  have LP1 : ∀ (f1 i : Nat) (z5 : Int), i + f1 = 6 → V E X 0 0 n M 20 [some (.ref o), some (.int (iI (h : Int))), some (.int (iI (A.1 618))), some (.int (iI (sumI (fun c => realDays A.1 (h : Int) c 0 999 (A.1 618)) i))), some (.int (iI (sumI (fun c => bI (hasV A.1 (h : Int) c)) i))), some (.int (iI (z5))), some (.int (iI 1)), some (.int (iI (i : Int))), none, none, none, none, none] [] := by
    intro f1
    induction f1 using Nat.strongRecOn with
    | _ f1 ih1 =>
    intro i z5 hf1
    refine V.il7 g0 d_L_areStaysSo_20 ?_
    refine V.bipush g0 d_L_areStaysSo_22 (by decide) ?_
    refine V.icmpge g0 d_L_areStaysSo_24 (by omega) (fun c_24 => ?_) (fun c_24 => ?_)
    · skip
      have e6 : i = 6 := by omega
      subst e6
      have hre := real_le hO (h : Int)
      have hrn := sumI_ub (f := fun c => realDays A.1 (h : Int) c 0 999 (A.1 618)) (B := 999) 6 (fun c _ => real_bb hO (h : Int) c)
      refine V.il6 g0 d_L_areStaysSo_469 ?_
      refine V.ifeq g0 d_L_areStaysSo_471 (by omega) (fun c_471 => ?_) (fun c_471 => ?_)
      · skip
        exfalso; omega
      · skip
        refine V.il3 g0 d_L_areStaysSo_474 ?_
        refine V.il2 g0 d_L_areStaysSo_475 ?_
        refine V.icmpgt g0 d_L_areStaysSo_476 (by omega) (fun c_476 => ?_) (fun c_476 => ?_)
        · skip
          exfalso; omega
        · skip
          refine V.il4 g0 d_L_areStaysSo_479 ?_
          refine V.al0 g0 d_L_areStaysSo_481 ?_
          refine V.il1 g0 d_L_areStaysSo_482 ?_
          refine V.bipush g0 d_L_areStaysSo_483 (by decide) ?_
          refine V.callVp g0 (MT.ans (c_X6_passport hXo hXn hkr (by decide)) (pas8 hk)) ky_X6_passport ki_X6_passport ks2_X6_passport lk_L_47 hXo rfl rfl (Nat.le_of_ble_eq_true rfl) ⟨Nat.zero_le _, Nat.zero_le _⟩ rfl rfl (Nat.le_of_ble_eq_true rfl) d_L_areStaysSo_485 ?_
          rw [show sumI (fun c => bI (hasV A.1 (h : Int) c)) 6 = visN A.1 (h : Int) 0 from (visN_s A.1 (h : Int)).symm]
          refine V.sameNe g0 d_L_areStaysSo_488 ?_
          refine V.iconst g0 d_L_areStaysSo_491 ?_
          refine V.goto g0 d_L_areStaysSo_492 ?_
          refine V.zret g d_L_areStaysSo_496 (by first | exact Or.inl rfl | exact Or.inr rfl | exact bI_01 _) (Nat.zero_le _) (Nat.zero_le _) ⟨congrArg (fun z => some (Value.int (iI z))) ?_, rfl, rfl⟩
          rfl
    · skip
      have hc : 0 ≤ (i : Int) ∧ (i : Int) < 6 := by omega
      have hi := hind A.1 (h : Int) (i : Int) 2
      have hrb := hindr_b A.1 (h : Int) (i : Int) 2
      have hvb := hkp.vis hc.1 hc.2
      have hub := usedOn_b2 hkp hc.1 hc.2 (A.1 618)
      have htb := told_bb hO (h : Int) (i : Int)
      refine V.al0 g0 d_L_areStaysSo_27 ?_
      refine V.il1 g0 d_L_areStaysSo_28 ?_
      refine V.iconst g0 d_L_areStaysSo_29 ?_
      refine V.callVp g0 (MT.ans (c_X6_passport hXo hXn hkr (by decide)) (pas0 hk)) ky_X6_passport ki_X6_passport ks2_X6_passport lk_L_47 hXo rfl rfl (Nat.le_of_ble_eq_true rfl) ⟨Nat.zero_le _, Nat.zero_le _⟩ rfl rfl (Nat.le_of_ble_eq_true rfl) d_L_areStaysSo_30 ?_
      refine V.il7 g0 d_L_areStaysSo_33 ?_
      refine V.eqb_icmpne (P := A.1 (103 * (h : Int) + 0) = (i : Int)) g0 d_L_areStaysSo_35 d_L_areStaysSo_38 d_L_areStaysSo_39 d_L_areStaysSo_42 (by omega) Iff.rfl ?_
      refine V.is8 g0 d_L_areStaysSo_43 ?_
      by_cases hv : hasV A.1 (h : Int) (i : Int)
      · skip
        have hv1 : 0 < vOf A.1 (h : Int) (i : Int) 2 := hv
        have hv2 := i3 _ hc.1 hc.2 hv
        have hD := lft_y hk hc hv
        refine V.al0 g0 d_L_areStaysSo_45 ?_
        refine V.il1 g0 d_L_areStaysSo_46 ?_
        refine V.il7 g0 d_L_areStaysSo_47 ?_
        refine V.iconst g0 d_L_areStaysSo_49 ?_
        refine V.callVp g0 (MT.ans (c_X6_visa hXo hXn hkr (by constructor <;> omega) (by decide)) (vis2 hk hc hv)) ky_X6_visa ki_X6_visa ks2_X6_visa lk_L_53 hXo rfl rfl (Nat.le_of_ble_eq_true rfl) ⟨Nat.zero_le _, Nat.zero_le _⟩ rfl rfl (Nat.le_of_ble_eq_true rfl) d_L_areStaysSo_50 ?_
        refine V.is9 g0 d_L_areStaysSo_53 ?_
        refine V.al0 g0 d_L_areStaysSo_55 ?_
        refine V.il1 g0 d_L_areStaysSo_56 ?_
        refine V.il7 g0 d_L_areStaysSo_57 ?_
        refine V.iconst g0 d_L_areStaysSo_59 ?_
        refine V.callVp g0 (MT.ans (c_X6_visa hXo hXn hkr (by constructor <;> omega) (by decide)) (vis3 hk hc hv)) ky_X6_visa ki_X6_visa ks2_X6_visa lk_L_53 hXo rfl rfl (Nat.le_of_ble_eq_true rfl) ⟨Nat.zero_le _, Nat.zero_le _⟩ rfl rfl (Nat.le_of_ble_eq_true rfl) d_L_areStaysSo_60 ?_
        refine V.is10 g0 d_L_areStaysSo_63 ?_
        refine V.al0 g0 d_L_areStaysSo_65 ?_
        refine V.il1 g0 d_L_areStaysSo_66 ?_
        refine V.il7 g0 d_L_areStaysSo_67 ?_
        refine V.callVp g0 (MT.ans (c_X6_reason hXo hXn hkr (by constructor <;> omega)) (rea hk hc)) ky_X6_reason ki_X6_reason ks2_X6_reason lk_L_56 hXo rfl rfl (Nat.le_of_ble_eq_true rfl) ⟨Nat.zero_le _, Nat.zero_le _⟩ rfl rfl (Nat.le_of_ble_eq_true rfl) d_L_areStaysSo_69 ?_
        refine V.is11 g0 d_L_areStaysSo_72 ?_
        have J1 : V E X 0 0 n M 103 [some (.ref o), some (.int (iI (h : Int))), some (.int (iI (A.1 618))), some (.int (iI (sumI (fun c => realDays A.1 (h : Int) c 0 999 (A.1 618)) i))), some (.int (iI (sumI (fun c => bI (hasV A.1 (h : Int) c)) i))), some (.int (iI (z5))), some (.int (iI 1)), some (.int (iI (i : Int))), some (.int (iI (bI (A.1 (103 * (h : Int) + 0) = (i : Int))))), some (.int (iI (vOf A.1 (h : Int) (i : Int) 2))), some (.int (iI (usedOn A.1 (h : Int) (i : Int) (A.1 618)))), some (.int (iI (hindr A.1 (h : Int) (i : Int) 2))), none] [.int (iI (bI (mayBe A.1 (h : Int) (i : Int) (A.1 618))))] := by
          refine V.is12 g0 d_L_areStaysSo_103 ?_
          refine V.il3 g0 d_L_areStaysSo_105 ?_
          refine V.al0 g0 d_L_areStaysSo_106 ?_
          refine V.il1 g0 d_L_areStaysSo_107 ?_
          refine V.il7 g0 d_L_areStaysSo_108 ?_
          refine V.iconst g0 d_L_areStaysSo_110 ?_
          refine V.sipush g0 d_L_areStaysSo_111 (by decide) ?_
          refine V.iconst g0 d_L_areStaysSo_114 ?_
          refine V.callVp g0 (MT.ans (c_X6_stay hXo hXn hkr (by constructor <;> omega) (by decide) (by decide) (by decide)) (sty0 hk hc)) ky_X6_stay ki_X6_stay ks2_X6_stay lk_L_59 hXo rfl rfl (Nat.le_of_ble_eq_true rfl) ⟨Nat.zero_le _, Nat.zero_le _⟩ rfl rfl (Nat.le_of_ble_eq_true rfl) d_L_areStaysSo_115 ?_
          refine V.iadd g0 d_L_areStaysSo_118 ?_
          refine V.is3 g0 d_L_areStaysSo_119 ?_
          refine V.il4 g0 d_L_areStaysSo_120 ?_
          refine V.il9 g0 d_L_areStaysSo_122 ?_
          refine V.eqb_ifle (P := hasV A.1 (h : Int) (i : Int)) g0 d_L_areStaysSo_124 d_L_areStaysSo_127 d_L_areStaysSo_128 d_L_areStaysSo_131 (by omega) Int.not_le ?_
          refine V.iadd g0 d_L_areStaysSo_132 ?_
          refine V.is4 g0 d_L_areStaysSo_133 ?_
          refine V.il5 g0 d_L_areStaysSo_135 ?_
          refine V.al0 g0 d_L_areStaysSo_137 ?_
          refine V.il1 g0 d_L_areStaysSo_138 ?_
          refine V.il7 g0 d_L_areStaysSo_139 ?_
          refine V.iconst g0 d_L_areStaysSo_141 ?_
          refine V.callVp g0 (MT.ans (c_X6_visa hXo hXn hkr (by constructor <;> omega) (by decide)) (vis4 hk hc hv)) ky_X6_visa ki_X6_visa ks2_X6_visa lk_L_53 hXo rfl rfl (Nat.le_of_ble_eq_true rfl) ⟨Nat.zero_le _, Nat.zero_le _⟩ rfl rfl (Nat.le_of_ble_eq_true rfl) d_L_areStaysSo_142 ?_
          refine V.iconst g0 d_L_areStaysSo_145 ?_
          refine V.eqb_icmpne (P := validOn A.1 (h : Int) (i : Int) (A.1 618)) g0 d_L_areStaysSo_146 d_L_areStaysSo_149 d_L_areStaysSo_150 d_L_areStaysSo_153 bI_rg1 bI_1 ?_
          refine V.iadd g0 d_L_areStaysSo_154 ?_
          refine V.is5 g0 d_L_areStaysSo_155 ?_
          refine V.il6 g0 d_L_areStaysSo_157 ?_
          refine V.ifeq g0 d_L_areStaysSo_159 (by omega) (fun c_159 => ?_) (fun c_159 => ?_)
          · skip
            exfalso; omega
          · skip
            refine V.al0 g0 d_L_areStaysSo_162 ?_
            refine V.il1 g0 d_L_areStaysSo_163 ?_
            refine V.il7 g0 d_L_areStaysSo_164 ?_
            refine V.iconst g0 d_L_areStaysSo_166 ?_
            refine V.sipush g0 d_L_areStaysSo_167 (by decide) ?_
            refine V.iconst g0 d_L_areStaysSo_170 ?_
            refine V.callVp g0 (MT.ans (c_X6_stay hXo hXn hkr (by constructor <;> omega) (by decide) (by decide) (by decide)) (sty1 hk hc (by decide) (by decide))) ky_X6_stay ki_X6_stay ks2_X6_stay lk_L_59 hXo rfl rfl (Nat.le_of_ble_eq_true rfl) ⟨Nat.zero_le _, Nat.zero_le _⟩ rfl rfl (Nat.le_of_ble_eq_true rfl) d_L_areStaysSo_171 ?_
            refine V.il2 g0 d_L_areStaysSo_174 ?_
            refine V.icmpgt g0 d_L_areStaysSo_175 (by omega) (fun c_175 => ?_) (fun c_175 => ?_)
            · skip
              exfalso; omega
            · skip
              have J2 : V E X 0 0 n M 352 [some (.ref o), some (.int (iI (h : Int))), some (.int (iI (A.1 618))), some (.int (iI (sumI (fun c => realDays A.1 (h : Int) c 0 999 (A.1 618)) i + realDays A.1 (h : Int) (i : Int) 0 999 (A.1 618)))), some (.int (iI (sumI (fun c => bI (hasV A.1 (h : Int) c)) i + bI (hasV A.1 (h : Int) (i : Int))))), some (.int (iI (z5 + bI (validOn A.1 (h : Int) (i : Int) (A.1 618))))), some (.int (iI 1)), some (.int (iI (i : Int))), some (.int (iI (bI (A.1 (103 * (h : Int) + 0) = (i : Int))))), some (.int (iI (vOf A.1 (h : Int) (i : Int) 2))), some (.int (iI (usedOn A.1 (h : Int) (i : Int) (A.1 618)))), some (.int (iI (hindr A.1 (h : Int) (i : Int) 2))), some (.int (iI (bI (mayBe A.1 (h : Int) (i : Int) (A.1 618)))))] [] := by
                refine V.il11 g0 d_L_areStaysSo_352 ?_
                refine V.iflt g0 d_L_areStaysSo_354 (by omega) (fun c_354 => ?_) (fun c_354 => ?_)
                · skip
                  exfalso; omega
                · skip
                  refine V.il11 g0 d_L_areStaysSo_357 ?_
                  refine V.bipush g0 d_L_areStaysSo_359 (by decide) ?_
                  refine V.icmpge g0 d_L_areStaysSo_361 (by omega) (fun c_361 => ?_) (fun c_361 => ?_)
                  · skip
                    exfalso; omega
                  · skip
                    refine V.il11 g0 d_L_areStaysSo_364 ?_
                    refine V.iconst g0 d_L_areStaysSo_366 ?_
                    refine V.eqb_icmpne (P := hindr A.1 (h : Int) (i : Int) 2 = 1) g0 d_L_areStaysSo_367 d_L_areStaysSo_370 d_L_areStaysSo_371 d_L_areStaysSo_374 (by omega) Iff.rfl ?_
                    refine V.al0 g0 d_L_areStaysSo_375 ?_
                    refine V.il1 g0 d_L_areStaysSo_376 ?_
                    refine V.iconst g0 d_L_areStaysSo_377 ?_
                    refine V.callVp g0 (MT.ans (c_X6_passport hXo hXn hkr (by decide)) (pas1 hk)) ky_X6_passport ki_X6_passport ks2_X6_passport lk_L_47 hXo rfl rfl (Nat.le_of_ble_eq_true rfl) ⟨Nat.zero_le _, Nat.zero_le _⟩ rfl rfl (Nat.le_of_ble_eq_true rfl) d_L_areStaysSo_378 ?_
                    refine V.il7 g0 d_L_areStaysSo_381 ?_
                    refine V.eqb_icmpne (P := A.1 (103 * (h : Int) + 2) = (i : Int)) g0 d_L_areStaysSo_383 d_L_areStaysSo_386 d_L_areStaysSo_387 d_L_areStaysSo_390 (by omega) Iff.rfl ?_
                    rw [bI_e hi.1]
                    refine V.sameNe g0 d_L_areStaysSo_391 ?_
                    have J3 : V E X 0 0 n M 411 [some (.ref o), some (.int (iI (h : Int))), some (.int (iI (A.1 618))), some (.int (iI (sumI (fun c => realDays A.1 (h : Int) c 0 999 (A.1 618)) i + realDays A.1 (h : Int) (i : Int) 0 999 (A.1 618)))), some (.int (iI (sumI (fun c => bI (hasV A.1 (h : Int) c)) i + bI (hasV A.1 (h : Int) (i : Int))))), some (.int (iI (z5 + bI (validOn A.1 (h : Int) (i : Int) (A.1 618))))), some (.int (iI 1)), some (.int (iI (i : Int))), some (.int (iI (bI (A.1 (103 * (h : Int) + 0) = (i : Int))))), some (.int (iI (vOf A.1 (h : Int) (i : Int) 2))), some (.int (iI (usedOn A.1 (h : Int) (i : Int) (A.1 618)))), some (.int (iI (hindr A.1 (h : Int) (i : Int) 2))), some (.int (iI (bI (mayBe A.1 (h : Int) (i : Int) (A.1 618)))))] [] := by
                      have J4 : V E X 0 0 n M 421 [some (.ref o), some (.int (iI (h : Int))), some (.int (iI (A.1 618))), some (.int (iI (sumI (fun c => realDays A.1 (h : Int) c 0 999 (A.1 618)) i + realDays A.1 (h : Int) (i : Int) 0 999 (A.1 618)))), some (.int (iI (sumI (fun c => bI (hasV A.1 (h : Int) c)) i + bI (hasV A.1 (h : Int) (i : Int))))), some (.int (iI (z5 + bI (validOn A.1 (h : Int) (i : Int) (A.1 618))))), some (.int (iI 1)), some (.int (iI (i : Int))), some (.int (iI (bI (A.1 (103 * (h : Int) + 0) = (i : Int))))), some (.int (iI (vOf A.1 (h : Int) (i : Int) 2))), some (.int (iI (usedOn A.1 (h : Int) (i : Int) (A.1 618)))), some (.int (iI (hindr A.1 (h : Int) (i : Int) 2))), some (.int (iI (bI (mayBe A.1 (h : Int) (i : Int) (A.1 618)))))] [] := by
                        have J5 : V E X 0 0 n M 438 [some (.ref o), some (.int (iI (h : Int))), some (.int (iI (A.1 618))), some (.int (iI (sumI (fun c => realDays A.1 (h : Int) c 0 999 (A.1 618)) i + realDays A.1 (h : Int) (i : Int) 0 999 (A.1 618)))), some (.int (iI (sumI (fun c => bI (hasV A.1 (h : Int) c)) i + bI (hasV A.1 (h : Int) (i : Int))))), some (.int (iI (z5 + bI (validOn A.1 (h : Int) (i : Int) (A.1 618))))), some (.int (iI 1)), some (.int (iI (i : Int))), some (.int (iI (bI (A.1 (103 * (h : Int) + 0) = (i : Int))))), some (.int (iI (vOf A.1 (h : Int) (i : Int) 2))), some (.int (iI (usedOn A.1 (h : Int) (i : Int) (A.1 618)))), some (.int (iI (hindr A.1 (h : Int) (i : Int) 2))), some (.int (iI (bI (mayBe A.1 (h : Int) (i : Int) (A.1 618)))))] [] := by
                          have J6 : V E X 0 0 n M 456 [some (.ref o), some (.int (iI (h : Int))), some (.int (iI (A.1 618))), some (.int (iI (sumI (fun c => realDays A.1 (h : Int) c 0 999 (A.1 618)) i + realDays A.1 (h : Int) (i : Int) 0 999 (A.1 618)))), some (.int (iI (sumI (fun c => bI (hasV A.1 (h : Int) c)) i + bI (hasV A.1 (h : Int) (i : Int))))), some (.int (iI (z5 + bI (validOn A.1 (h : Int) (i : Int) (A.1 618))))), some (.int (iI 1)), some (.int (iI (i : Int))), some (.int (iI (bI (A.1 (103 * (h : Int) + 0) = (i : Int))))), some (.int (iI (vOf A.1 (h : Int) (i : Int) 2))), some (.int (iI (usedOn A.1 (h : Int) (i : Int) (A.1 618)))), some (.int (iI (hindr A.1 (h : Int) (i : Int) 2))), some (.int (iI (bI (mayBe A.1 (h : Int) (i : Int) (A.1 618)))))] [] := by
                            refine V.iconst g0 d_L_areStaysSo_456 ?_
                            refine V.goto g0 d_L_areStaysSo_457 ?_
                            refine V.is6 g0 d_L_areStaysSo_461 ?_
                            refine V.inc7 g0 d_L_areStaysSo_463 ?_
                            refine V.goto g0 d_L_areStaysSo_466 ?_
                            exact V.weak2 (ih1 (f1 - 1) (by omega) (i + 1) _ (by omega)) (lcLe_s (lcLe_s (lcLe_s (lcLe_s (lcLe_s (lcLe_s (lcLe_s (lcLe_s (lcLe_f (lcLe_f (lcLe_f (lcLe_f (lcLe_f lcLe_n)))))))))))))
                          refine V.il11 g0 d_L_areStaysSo_438 ?_
                          refine V.iconst g0 d_L_areStaysSo_440 ?_
                          refine V.icmpne g0 d_L_areStaysSo_441 (by omega) (fun c_441 => ?_) (fun c_441 => ?_)
                          · skip
                            exact J6
                          · skip
                            refine V.al0 g0 d_L_areStaysSo_444 ?_
                            refine V.il1 g0 d_L_areStaysSo_445 ?_
                            refine V.il7 g0 d_L_areStaysSo_446 ?_
                            refine V.iconst g0 d_L_areStaysSo_448 ?_
                            refine V.callVp g0 (MT.ans (c_X6_visa hXo hXn hkr (by constructor <;> omega) (by decide)) (vis4 hk hc hv)) ky_X6_visa ki_X6_visa ks2_X6_visa lk_L_53 hXo rfl rfl (Nat.le_of_ble_eq_true rfl) ⟨Nat.zero_le _, Nat.zero_le _⟩ rfl rfl (Nat.le_of_ble_eq_true rfl) d_L_areStaysSo_449 ?_
                            refine V.iconst g0 d_L_areStaysSo_452 ?_
                            refine V.icmpeq g0 d_L_areStaysSo_453 bI_rg1 (fun c_453 => ?_) (fun c_453 => ?_)
                            · skip
                              exact absurd (bI_1.mp c_453) (hi.2.2.2.1 c_441).2
                            · skip
                              exact J6
                        refine V.il11 g0 d_L_areStaysSo_421 ?_
                        refine V.iconst g0 d_L_areStaysSo_423 ?_
                        refine V.icmpne g0 d_L_areStaysSo_424 (by omega) (fun c_424 => ?_) (fun c_424 => ?_)
                        · skip
                          exact J5
                        · skip
                          refine V.al0 g0 d_L_areStaysSo_427 ?_
                          refine V.il1 g0 d_L_areStaysSo_428 ?_
                          refine V.iconst g0 d_L_areStaysSo_429 ?_
                          refine V.callVp g0 (MT.ans (c_X6_passport hXo hXn hkr (by decide)) (pas3 hk)) ky_X6_passport ki_X6_passport ks2_X6_passport lk_L_47 hXo rfl rfl (Nat.le_of_ble_eq_true rfl) ⟨Nat.zero_le _, Nat.zero_le _⟩ rfl rfl (Nat.le_of_ble_eq_true rfl) d_L_areStaysSo_430 ?_
                          refine V.bipush g0 d_L_areStaysSo_433 (by decide) ?_
                          have h16 := hi.2.2.2.2.2.1 c_424
                          refine V.icmple g0 d_L_areStaysSo_435 (by omega) (fun c_435 => ?_) (fun c_435 => ?_)
                          · skip
                            exfalso; omega
                          · skip
                            exact J5
                      refine V.il11 g0 d_L_areStaysSo_411 ?_
                      refine V.ifne g0 d_L_areStaysSo_413 (by omega) (fun c_413 => ?_) (fun c_413 => ?_)
                      · skip
                        exact J4
                      · skip
                        refine V.il12 g0 d_L_areStaysSo_416 ?_
                        refine V.ifeqB g0 d_L_areStaysSo_418 (fun c_418 => ?_) (fun c_418 => ?_)
                        · skip
                          exact absurd (hi.2.2.1.mp (Or.inl c_413)).2.2 c_418
                        · skip
                          exact J4
                    refine V.il11 g0 d_L_areStaysSo_394 ?_
                    refine V.iconst g0 d_L_areStaysSo_396 ?_
                    refine V.icmplt g0 d_L_areStaysSo_397 (by omega) (fun c_397 => ?_) (fun c_397 => ?_)
                    · skip
                      exact J3
                    · skip
                      refine V.il11 g0 d_L_areStaysSo_400 ?_
                      refine V.iconst g0 d_L_areStaysSo_402 ?_
                      refine V.icmpgt g0 d_L_areStaysSo_403 (by omega) (fun c_403 => ?_) (fun c_403 => ?_)
                      · skip
                        exact J3
                      · skip
                        refine V.il12 g0 d_L_areStaysSo_406 ?_
                        refine V.ifneB g0 d_L_areStaysSo_408 (fun c_408 => ?_) (fun c_408 => ?_)
                        · skip
                          exact ((show hindr A.1 (h : Int) (i : Int) 2 = 3 ∨ hindr A.1 (h : Int) (i : Int) 2 = 4 by omega).elim (fun z => hi.2.2.2.2.2.2.1 z c_408) (fun z => hi.2.2.2.2.1 z c_408)).elim
                        · skip
                          exact J3
              refine V.il9 g0 d_L_areStaysSo_178 ?_
              refine V.ifge g0 d_L_areStaysSo_180 (by omega) (fun c_180 => ?_) (fun c_180 => ?_)
              · skip
                refine V.il8 g0 d_L_areStaysSo_205 ?_
                refine V.ifneB g0 d_L_areStaysSo_207 (fun c_207 => ?_) (fun c_207 => ?_)
                · skip
                  exact absurd c_207 hv2.1
                · skip
                  refine V.il10 g0 d_L_areStaysSo_210 ?_
                  refine V.al0 g0 d_L_areStaysSo_212 ?_
                  refine V.il1 g0 d_L_areStaysSo_213 ?_
                  refine V.il7 g0 d_L_areStaysSo_214 ?_
                  refine V.al0 g0 d_L_areStaysSo_216 ?_
                  refine V.il1 g0 d_L_areStaysSo_217 ?_
                  refine V.il7 g0 d_L_areStaysSo_218 ?_
                  refine V.iconst g0 d_L_areStaysSo_220 ?_
                  refine V.callVp g0 (MT.ans (c_X6_visa hXo hXn hkr (by constructor <;> omega) (by decide)) (vis0 hk hc hv)) ky_X6_visa ki_X6_visa ks2_X6_visa lk_L_53 hXo rfl rfl (Nat.le_of_ble_eq_true rfl) ⟨Nat.zero_le _, Nat.zero_le _⟩ rfl rfl (Nat.le_of_ble_eq_true rfl) d_L_areStaysSo_221 ?_
                  refine V.al0 g0 d_L_areStaysSo_224 ?_
                  refine V.il1 g0 d_L_areStaysSo_225 ?_
                  refine V.il7 g0 d_L_areStaysSo_226 ?_
                  refine V.iconst g0 d_L_areStaysSo_228 ?_
                  refine V.callVp g0 (MT.ans (c_X6_visa hXo hXn hkr (by constructor <;> omega) (by decide)) (vis1 hk hc hv)) ky_X6_visa ki_X6_visa ks2_X6_visa lk_L_53 hXo rfl rfl (Nat.le_of_ble_eq_true rfl) ⟨Nat.zero_le _, Nat.zero_le _⟩ rfl rfl (Nat.le_of_ble_eq_true rfl) d_L_areStaysSo_229 ?_
                  refine V.iconst g0 d_L_areStaysSo_232 ?_
                  refine V.callVp g0 (MT.ans (c_X6_stay hXo hXn hkr (by constructor <;> omega) (by constructor <;> omega) (by constructor <;> omega) (by decide)) (show _ = usedOn A.1 (h : Int) (i : Int) (A.1 618) from sty1 hk hc hvb.1 ⟨hv2.2, hvb.2.1.2⟩)) ky_X6_stay ki_X6_stay ks2_X6_stay lk_L_59 hXo rfl rfl (Nat.le_of_ble_eq_true rfl) ⟨Nat.zero_le _, Nat.zero_le _⟩ rfl rfl (Nat.le_of_ble_eq_true rfl) d_L_areStaysSo_233 ?_
                  refine V.sameNe g0 d_L_areStaysSo_236 ?_
                  refine V.al0 g0 d_L_areStaysSo_239 ?_
                  refine V.il1 g0 d_L_areStaysSo_240 ?_
                  refine V.il7 g0 d_L_areStaysSo_241 ?_
                  refine V.callVp g0 (c_X6_daysLeft hXo hXn hkr (by constructor <;> omega)) ky_X6_daysLeft ki_X6_daysLeft ks2_X6_daysLeft lk_L_63 hXo rfl rfl (Nat.le_of_ble_eq_true rfl) ⟨Nat.zero_le _, Nat.zero_le _⟩ rfl rfl (Nat.le_of_ble_eq_true rfl) d_L_areStaysSo_243 ?_
                  refine V.iflt g0 d_L_areStaysSo_246 (by omega) (fun c_246 => ?_) (fun c_246 => ?_)
                  · skip
                    exfalso; omega
                  · skip
                    refine V.al0 g0 d_L_areStaysSo_249 ?_
                    refine V.il1 g0 d_L_areStaysSo_250 ?_
                    refine V.il7 g0 d_L_areStaysSo_251 ?_
                    refine V.callVp g0 (c_X6_daysLeft hXo hXn hkr (by constructor <;> omega)) ky_X6_daysLeft ki_X6_daysLeft ks2_X6_daysLeft lk_L_63 hXo rfl rfl (Nat.le_of_ble_eq_true rfl) ⟨Nat.zero_le _, Nat.zero_le _⟩ rfl rfl (Nat.le_of_ble_eq_true rfl) d_L_areStaysSo_253 ?_
                    refine V.il9 g0 d_L_areStaysSo_256 ?_
                    refine V.icmpgt g0 d_L_areStaysSo_258 (by omega) (fun c_258 => ?_) (fun c_258 => ?_)
                    · skip
                      exfalso; omega
                    · skip
                      refine V.al0 g0 d_L_areStaysSo_261 ?_
                      refine V.il1 g0 d_L_areStaysSo_262 ?_
                      refine V.il7 g0 d_L_areStaysSo_263 ?_
                      refine V.iconst g0 d_L_areStaysSo_265 ?_
                      refine V.callVp g0 (MT.ans (c_X6_visa hXo hXn hkr (by constructor <;> omega) (by decide)) (vis4 hk hc hv)) ky_X6_visa ki_X6_visa ks2_X6_visa lk_L_53 hXo rfl rfl (Nat.le_of_ble_eq_true rfl) ⟨Nat.zero_le _, Nat.zero_le _⟩ rfl rfl (Nat.le_of_ble_eq_true rfl) d_L_areStaysSo_266 ?_
                      refine V.iconst g0 d_L_areStaysSo_269 ?_
                      refine V.eqb_icmpne (P := validOn A.1 (h : Int) (i : Int) (A.1 618)) g0 d_L_areStaysSo_270 d_L_areStaysSo_273 d_L_areStaysSo_274 d_L_areStaysSo_277 bI_rg1 bI_1 ?_
                      refine V.al0 g0 d_L_areStaysSo_278 ?_
                      refine V.il1 g0 d_L_areStaysSo_279 ?_
                      refine V.il7 g0 d_L_areStaysSo_280 ?_
                      refine V.iconst g0 d_L_areStaysSo_282 ?_
                      refine V.callVp g0 (MT.ans (c_X6_visa hXo hXn hkr (by constructor <;> omega) (by decide)) (vis0 hk hc hv)) ky_X6_visa ki_X6_visa ks2_X6_visa lk_L_53 hXo rfl rfl (Nat.le_of_ble_eq_true rfl) ⟨Nat.zero_le _, Nat.zero_le _⟩ rfl rfl (Nat.le_of_ble_eq_true rfl) d_L_areStaysSo_283 ?_
                      refine V.il2 g0 d_L_areStaysSo_286 ?_
                      refine V.icmpgt g0 d_L_areStaysSo_287 (by omega) (fun c_287 => ?_) (fun c_287 => ?_)
                      · skip
                        refine V.iconst g0 d_L_areStaysSo_306 ?_
                        refine V.eqT (show bI (validOn A.1 (h : Int) (i : Int) (A.1 618)) = 0 from bI_f (fun q => by have := q.2; omega)) ?_
                        refine V.sameNe g0 d_L_areStaysSo_307 ?_
                        refine V.al0 g0 d_L_areStaysSo_310 ?_
                        refine V.il1 g0 d_L_areStaysSo_311 ?_
                        refine V.il7 g0 d_L_areStaysSo_312 ?_
                        refine V.callVp g0 (c_X6_daysLeft hXo hXn hkr (by constructor <;> omega)) ky_X6_daysLeft ki_X6_daysLeft ks2_X6_daysLeft lk_L_63 hXo rfl rfl (Nat.le_of_ble_eq_true rfl) ⟨Nat.zero_le _, Nat.zero_le _⟩ rfl rfl (Nat.le_of_ble_eq_true rfl) d_L_areStaysSo_314 ?_
                        refine V.eqb_ifne (P := q_daysLeft A.1 (h : Int) (i : Int) = 0) g0 d_L_areStaysSo_317 d_L_areStaysSo_320 d_L_areStaysSo_321 d_L_areStaysSo_324 (by omega) Iff.rfl ?_
                        refine V.il10 g0 d_L_areStaysSo_325 ?_
                        refine V.il9 g0 d_L_areStaysSo_327 ?_
                        refine V.icmpge g0 d_L_areStaysSo_329 (by omega) (fun c_329 => ?_) (fun c_329 => ?_)
                        · skip
                          refine V.iconst g0 d_L_areStaysSo_344 ?_
                          refine V.goto g0 d_L_areStaysSo_345 ?_
                          rw [show bI (q_daysLeft A.1 (h : Int) (i : Int) = 0) = 1 from bI_t (by omega)]
                          refine V.sameNe g0 d_L_areStaysSo_349 ?_
                          exact J2
                        · skip
                          refine V.al0 g0 d_L_areStaysSo_332 ?_
                          refine V.il1 g0 d_L_areStaysSo_333 ?_
                          refine V.il7 g0 d_L_areStaysSo_334 ?_
                          refine V.iconst g0 d_L_areStaysSo_336 ?_
                          refine V.callVp g0 (MT.ans (c_X6_visa hXo hXn hkr (by constructor <;> omega) (by decide)) (vis1 hk hc hv)) ky_X6_visa ki_X6_visa ks2_X6_visa lk_L_53 hXo rfl rfl (Nat.le_of_ble_eq_true rfl) ⟨Nat.zero_le _, Nat.zero_le _⟩ rfl rfl (Nat.le_of_ble_eq_true rfl) d_L_areStaysSo_337 ?_
                          refine V.il2 g0 d_L_areStaysSo_340 ?_
                          refine V.icmpge g0 d_L_areStaysSo_341 (by omega) (fun c_341 => ?_) (fun c_341 => ?_)
                          · skip
                            refine V.iconst g0 d_L_areStaysSo_348 ?_
                            rw [show bI (q_daysLeft A.1 (h : Int) (i : Int) = 0) = 0 from bI_f (by omega)]
                            refine V.sameNe g0 d_L_areStaysSo_349 ?_
                            exact J2
                          · skip
                            refine V.iconst g0 d_L_areStaysSo_344 ?_
                            refine V.goto g0 d_L_areStaysSo_345 ?_
                            rw [show bI (q_daysLeft A.1 (h : Int) (i : Int) = 0) = 1 from bI_t (by omega)]
                            refine V.sameNe g0 d_L_areStaysSo_349 ?_
                            exact J2
                      · skip
                        refine V.il2 g0 d_L_areStaysSo_290 ?_
                        refine V.al0 g0 d_L_areStaysSo_291 ?_
                        refine V.il1 g0 d_L_areStaysSo_292 ?_
                        refine V.il7 g0 d_L_areStaysSo_293 ?_
                        refine V.iconst g0 d_L_areStaysSo_295 ?_
                        refine V.callVp g0 (MT.ans (c_X6_visa hXo hXn hkr (by constructor <;> omega) (by decide)) (vis1 hk hc hv)) ky_X6_visa ki_X6_visa ks2_X6_visa lk_L_53 hXo rfl rfl (Nat.le_of_ble_eq_true rfl) ⟨Nat.zero_le _, Nat.zero_le _⟩ rfl rfl (Nat.le_of_ble_eq_true rfl) d_L_areStaysSo_296 ?_
                        refine V.icmpgt g0 d_L_areStaysSo_299 (by omega) (fun c_299 => ?_) (fun c_299 => ?_)
                        · skip
                          refine V.iconst g0 d_L_areStaysSo_306 ?_
                          refine V.eqT (show bI (validOn A.1 (h : Int) (i : Int) (A.1 618)) = 0 from bI_f (fun q => by have := q.2; omega)) ?_
                          refine V.sameNe g0 d_L_areStaysSo_307 ?_
                          refine V.al0 g0 d_L_areStaysSo_310 ?_
                          refine V.il1 g0 d_L_areStaysSo_311 ?_
                          refine V.il7 g0 d_L_areStaysSo_312 ?_
                          refine V.callVp g0 (c_X6_daysLeft hXo hXn hkr (by constructor <;> omega)) ky_X6_daysLeft ki_X6_daysLeft ks2_X6_daysLeft lk_L_63 hXo rfl rfl (Nat.le_of_ble_eq_true rfl) ⟨Nat.zero_le _, Nat.zero_le _⟩ rfl rfl (Nat.le_of_ble_eq_true rfl) d_L_areStaysSo_314 ?_
                          refine V.eqb_ifne (P := q_daysLeft A.1 (h : Int) (i : Int) = 0) g0 d_L_areStaysSo_317 d_L_areStaysSo_320 d_L_areStaysSo_321 d_L_areStaysSo_324 (by omega) Iff.rfl ?_
                          refine V.il10 g0 d_L_areStaysSo_325 ?_
                          refine V.il9 g0 d_L_areStaysSo_327 ?_
                          refine V.icmpge g0 d_L_areStaysSo_329 (by omega) (fun c_329 => ?_) (fun c_329 => ?_)
                          · skip
                            refine V.iconst g0 d_L_areStaysSo_344 ?_
                            refine V.goto g0 d_L_areStaysSo_345 ?_
                            rw [show bI (q_daysLeft A.1 (h : Int) (i : Int) = 0) = 1 from bI_t (by omega)]
                            refine V.sameNe g0 d_L_areStaysSo_349 ?_
                            exact J2
                          · skip
                            refine V.al0 g0 d_L_areStaysSo_332 ?_
                            refine V.il1 g0 d_L_areStaysSo_333 ?_
                            refine V.il7 g0 d_L_areStaysSo_334 ?_
                            refine V.iconst g0 d_L_areStaysSo_336 ?_
                            refine V.callVp g0 (MT.ans (c_X6_visa hXo hXn hkr (by constructor <;> omega) (by decide)) (vis1 hk hc hv)) ky_X6_visa ki_X6_visa ks2_X6_visa lk_L_53 hXo rfl rfl (Nat.le_of_ble_eq_true rfl) ⟨Nat.zero_le _, Nat.zero_le _⟩ rfl rfl (Nat.le_of_ble_eq_true rfl) d_L_areStaysSo_337 ?_
                            refine V.il2 g0 d_L_areStaysSo_340 ?_
                            refine V.icmpge g0 d_L_areStaysSo_341 (by omega) (fun c_341 => ?_) (fun c_341 => ?_)
                            · skip
                              refine V.iconst g0 d_L_areStaysSo_348 ?_
                              rw [show bI (q_daysLeft A.1 (h : Int) (i : Int) = 0) = 0 from bI_f (by omega)]
                              refine V.sameNe g0 d_L_areStaysSo_349 ?_
                              exact J2
                            · skip
                              refine V.iconst g0 d_L_areStaysSo_344 ?_
                              refine V.goto g0 d_L_areStaysSo_345 ?_
                              rw [show bI (q_daysLeft A.1 (h : Int) (i : Int) = 0) = 1 from bI_t (by omega)]
                              refine V.sameNe g0 d_L_areStaysSo_349 ?_
                              exact J2
                        · skip
                          refine V.iconst g0 d_L_areStaysSo_302 ?_
                          refine V.goto g0 d_L_areStaysSo_303 ?_
                          refine V.eqT (show bI (validOn A.1 (h : Int) (i : Int) (A.1 618)) = 1 from bI_t ⟨hv, by omega, by omega⟩) ?_
                          refine V.sameNe g0 d_L_areStaysSo_307 ?_
                          refine V.al0 g0 d_L_areStaysSo_310 ?_
                          refine V.il1 g0 d_L_areStaysSo_311 ?_
                          refine V.il7 g0 d_L_areStaysSo_312 ?_
                          refine V.callVp g0 (c_X6_daysLeft hXo hXn hkr (by constructor <;> omega)) ky_X6_daysLeft ki_X6_daysLeft ks2_X6_daysLeft lk_L_63 hXo rfl rfl (Nat.le_of_ble_eq_true rfl) ⟨Nat.zero_le _, Nat.zero_le _⟩ rfl rfl (Nat.le_of_ble_eq_true rfl) d_L_areStaysSo_314 ?_
                          refine V.eqb_ifne (P := q_daysLeft A.1 (h : Int) (i : Int) = 0) g0 d_L_areStaysSo_317 d_L_areStaysSo_320 d_L_areStaysSo_321 d_L_areStaysSo_324 (by omega) Iff.rfl ?_
                          refine V.il10 g0 d_L_areStaysSo_325 ?_
                          refine V.il9 g0 d_L_areStaysSo_327 ?_
                          refine V.icmpge g0 d_L_areStaysSo_329 (by omega) (fun c_329 => ?_) (fun c_329 => ?_)
                          · skip
                            refine V.iconst g0 d_L_areStaysSo_344 ?_
                            refine V.goto g0 d_L_areStaysSo_345 ?_
                            rw [show bI (q_daysLeft A.1 (h : Int) (i : Int) = 0) = 1 from bI_t (by omega)]
                            refine V.sameNe g0 d_L_areStaysSo_349 ?_
                            exact J2
                          · skip
                            refine V.al0 g0 d_L_areStaysSo_332 ?_
                            refine V.il1 g0 d_L_areStaysSo_333 ?_
                            refine V.il7 g0 d_L_areStaysSo_334 ?_
                            refine V.iconst g0 d_L_areStaysSo_336 ?_
                            refine V.callVp g0 (MT.ans (c_X6_visa hXo hXn hkr (by constructor <;> omega) (by decide)) (vis1 hk hc hv)) ky_X6_visa ki_X6_visa ks2_X6_visa lk_L_53 hXo rfl rfl (Nat.le_of_ble_eq_true rfl) ⟨Nat.zero_le _, Nat.zero_le _⟩ rfl rfl (Nat.le_of_ble_eq_true rfl) d_L_areStaysSo_337 ?_
                            refine V.il2 g0 d_L_areStaysSo_340 ?_
                            refine V.icmpge g0 d_L_areStaysSo_341 (by omega) (fun c_341 => ?_) (fun c_341 => ?_)
                            · skip
                              refine V.iconst g0 d_L_areStaysSo_348 ?_
                              rw [show bI (q_daysLeft A.1 (h : Int) (i : Int) = 0) = 0 from bI_f (by omega)]
                              refine V.sameNe g0 d_L_areStaysSo_349 ?_
                              exact J2
                            · skip
                              refine V.iconst g0 d_L_areStaysSo_344 ?_
                              refine V.goto g0 d_L_areStaysSo_345 ?_
                              rw [show bI (q_daysLeft A.1 (h : Int) (i : Int) = 0) = 1 from bI_t (by omega)]
                              refine V.sameNe g0 d_L_areStaysSo_349 ?_
                              exact J2
              · skip
                exfalso; omega
        refine V.il8 g0 d_L_areStaysSo_74 ?_
        refine V.ifneB g0 d_L_areStaysSo_76 (fun c_76 => ?_) (fun c_76 => ?_)
        · skip
          refine V.iconst g0 d_L_areStaysSo_98 ?_
          refine V.goto g0 d_L_areStaysSo_99 ?_
          exact V.eqS1 (show (1 : Int) = bI (mayBe A.1 (h : Int) (i : Int) (A.1 618)) from (bI_t (Or.inl c_76)).symm) J1
        · skip
          refine V.al0 g0 d_L_areStaysSo_79 ?_
          refine V.il1 g0 d_L_areStaysSo_80 ?_
          refine V.il7 g0 d_L_areStaysSo_81 ?_
          refine V.iconst g0 d_L_areStaysSo_83 ?_
          refine V.callVp g0 (MT.ans (c_X6_visa hXo hXn hkr (by constructor <;> omega) (by decide)) (vis4 hk hc hv)) ky_X6_visa ki_X6_visa ks2_X6_visa lk_L_53 hXo rfl rfl (Nat.le_of_ble_eq_true rfl) ⟨Nat.zero_le _, Nat.zero_le _⟩ rfl rfl (Nat.le_of_ble_eq_true rfl) d_L_areStaysSo_84 ?_
          refine V.iconst g0 d_L_areStaysSo_87 ?_
          refine V.icmpne g0 d_L_areStaysSo_88 bI_rg1 (fun c_88 => ?_) (fun c_88 => ?_)
          · skip
            refine V.iconst g0 d_L_areStaysSo_102 ?_
            exact V.eqS1 (show (0 : Int) = bI (mayBe A.1 (h : Int) (i : Int) (A.1 618)) from (bI_f (fun q => q.elim c_76 (fun z => c_88 (bI_1.mpr z.1)))).symm) J1
          · skip
            refine V.il10 g0 d_L_areStaysSo_91 ?_
            refine V.il9 g0 d_L_areStaysSo_93 ?_
            refine V.icmpge g0 d_L_areStaysSo_95 (by omega) (fun c_95 => ?_) (fun c_95 => ?_)
            · skip
              refine V.iconst g0 d_L_areStaysSo_102 ?_
              exact V.eqS1 (show (0 : Int) = bI (mayBe A.1 (h : Int) (i : Int) (A.1 618)) from (bI_f (fun q => q.elim c_76 (fun z => c_95 z.2))).symm) J1
            · skip
              refine V.iconst g0 d_L_areStaysSo_98 ?_
              refine V.goto g0 d_L_areStaysSo_99 ?_
              exact V.eqS1 (show (1 : Int) = bI (mayBe A.1 (h : Int) (i : Int) (A.1 618)) from (bI_t (Or.inr ⟨bI_1.mp c_88, c_95⟩)).symm) J1
      · skip
        refine V.al0 g0 d_L_areStaysSo_45 ?_
        refine V.il1 g0 d_L_areStaysSo_46 ?_
        refine V.il7 g0 d_L_areStaysSo_47 ?_
        refine V.iconst g0 d_L_areStaysSo_49 ?_
        refine V.callVp g0 (MT.ans (c_X6_visa hXo hXn hkr (by constructor <;> omega) (by decide)) (vis_n hk hc (by decide) hv)) ky_X6_visa ki_X6_visa ks2_X6_visa lk_L_53 hXo rfl rfl (Nat.le_of_ble_eq_true rfl) ⟨Nat.zero_le _, Nat.zero_le _⟩ rfl rfl (Nat.le_of_ble_eq_true rfl) d_L_areStaysSo_50 ?_
        refine V.is9 g0 d_L_areStaysSo_53 ?_
        refine V.al0 g0 d_L_areStaysSo_55 ?_
        refine V.il1 g0 d_L_areStaysSo_56 ?_
        refine V.il7 g0 d_L_areStaysSo_57 ?_
        refine V.iconst g0 d_L_areStaysSo_59 ?_
        refine V.callVp g0 (MT.ans (c_X6_visa hXo hXn hkr (by constructor <;> omega) (by decide)) (vis_n hk hc (by decide) hv)) ky_X6_visa ki_X6_visa ks2_X6_visa lk_L_53 hXo rfl rfl (Nat.le_of_ble_eq_true rfl) ⟨Nat.zero_le _, Nat.zero_le _⟩ rfl rfl (Nat.le_of_ble_eq_true rfl) d_L_areStaysSo_60 ?_
        refine V.is10 g0 d_L_areStaysSo_63 ?_
        refine V.al0 g0 d_L_areStaysSo_65 ?_
        refine V.il1 g0 d_L_areStaysSo_66 ?_
        refine V.il7 g0 d_L_areStaysSo_67 ?_
        refine V.callVp g0 (MT.ans (c_X6_reason hXo hXn hkr (by constructor <;> omega)) (rea hk hc)) ky_X6_reason ki_X6_reason ks2_X6_reason lk_L_56 hXo rfl rfl (Nat.le_of_ble_eq_true rfl) ⟨Nat.zero_le _, Nat.zero_le _⟩ rfl rfl (Nat.le_of_ble_eq_true rfl) d_L_areStaysSo_69 ?_
        refine V.is11 g0 d_L_areStaysSo_72 ?_
        have J1 : V E X 0 0 n M 103 [some (.ref o), some (.int (iI (h : Int))), some (.int (iI (A.1 618))), some (.int (iI (sumI (fun c => realDays A.1 (h : Int) c 0 999 (A.1 618)) i))), some (.int (iI (sumI (fun c => bI (hasV A.1 (h : Int) c)) i))), some (.int (iI (z5))), some (.int (iI 1)), some (.int (iI (i : Int))), some (.int (iI (bI (A.1 (103 * (h : Int) + 0) = (i : Int))))), some (.int (iI (-5))), some (.int (iI (-5))), some (.int (iI (hindr A.1 (h : Int) (i : Int) 2))), none] [.int (iI (bI (mayBe A.1 (h : Int) (i : Int) (A.1 618))))] := by
          refine V.is12 g0 d_L_areStaysSo_103 ?_
          refine V.il3 g0 d_L_areStaysSo_105 ?_
          refine V.al0 g0 d_L_areStaysSo_106 ?_
          refine V.il1 g0 d_L_areStaysSo_107 ?_
          refine V.il7 g0 d_L_areStaysSo_108 ?_
          refine V.iconst g0 d_L_areStaysSo_110 ?_
          refine V.sipush g0 d_L_areStaysSo_111 (by decide) ?_
          refine V.iconst g0 d_L_areStaysSo_114 ?_
          refine V.callVp g0 (MT.ans (c_X6_stay hXo hXn hkr (by constructor <;> omega) (by decide) (by decide) (by decide)) (sty0 hk hc)) ky_X6_stay ki_X6_stay ks2_X6_stay lk_L_59 hXo rfl rfl (Nat.le_of_ble_eq_true rfl) ⟨Nat.zero_le _, Nat.zero_le _⟩ rfl rfl (Nat.le_of_ble_eq_true rfl) d_L_areStaysSo_115 ?_
          refine V.iadd g0 d_L_areStaysSo_118 ?_
          refine V.is3 g0 d_L_areStaysSo_119 ?_
          refine V.il4 g0 d_L_areStaysSo_120 ?_
          refine V.il9 g0 d_L_areStaysSo_122 ?_
          refine V.eqb_ifle (P := hasV A.1 (h : Int) (i : Int)) g0 d_L_areStaysSo_124 d_L_areStaysSo_127 d_L_areStaysSo_128 d_L_areStaysSo_131 (by omega) (show ¬ (-5 : Int) ≤ 0 ↔ hasV A.1 (h : Int) (i : Int) from ⟨fun q => absurd (by decide) q, fun q => absurd q hv⟩) ?_
          refine V.iadd g0 d_L_areStaysSo_132 ?_
          refine V.is4 g0 d_L_areStaysSo_133 ?_
          refine V.il5 g0 d_L_areStaysSo_135 ?_
          refine V.al0 g0 d_L_areStaysSo_137 ?_
          refine V.il1 g0 d_L_areStaysSo_138 ?_
          refine V.il7 g0 d_L_areStaysSo_139 ?_
          refine V.iconst g0 d_L_areStaysSo_141 ?_
          refine V.callVp g0 (MT.ans (c_X6_visa hXo hXn hkr (by constructor <;> omega) (by decide)) (vis_n hk hc (by decide) hv)) ky_X6_visa ki_X6_visa ks2_X6_visa lk_L_53 hXo rfl rfl (Nat.le_of_ble_eq_true rfl) ⟨Nat.zero_le _, Nat.zero_le _⟩ rfl rfl (Nat.le_of_ble_eq_true rfl) d_L_areStaysSo_142 ?_
          refine V.iconst g0 d_L_areStaysSo_145 ?_
          refine V.eqb_icmpne (P := False) g0 d_L_areStaysSo_146 d_L_areStaysSo_149 d_L_areStaysSo_150 d_L_areStaysSo_153 (by decide) (show (-5 : Int) = 1 ↔ False by decide) ?_
          refine V.iadd g0 d_L_areStaysSo_154 ?_
          refine V.is5 g0 d_L_areStaysSo_155 ?_
          refine V.il6 g0 d_L_areStaysSo_157 ?_
          refine V.ifeq g0 d_L_areStaysSo_159 (by omega) (fun c_159 => ?_) (fun c_159 => ?_)
          · skip
            exfalso; omega
          · skip
            refine V.al0 g0 d_L_areStaysSo_162 ?_
            refine V.il1 g0 d_L_areStaysSo_163 ?_
            refine V.il7 g0 d_L_areStaysSo_164 ?_
            refine V.iconst g0 d_L_areStaysSo_166 ?_
            refine V.sipush g0 d_L_areStaysSo_167 (by decide) ?_
            refine V.iconst g0 d_L_areStaysSo_170 ?_
            refine V.callVp g0 (MT.ans (c_X6_stay hXo hXn hkr (by constructor <;> omega) (by decide) (by decide) (by decide)) (sty1 hk hc (by decide) (by decide))) ky_X6_stay ki_X6_stay ks2_X6_stay lk_L_59 hXo rfl rfl (Nat.le_of_ble_eq_true rfl) ⟨Nat.zero_le _, Nat.zero_le _⟩ rfl rfl (Nat.le_of_ble_eq_true rfl) d_L_areStaysSo_171 ?_
            refine V.il2 g0 d_L_areStaysSo_174 ?_
            refine V.icmpgt g0 d_L_areStaysSo_175 (by omega) (fun c_175 => ?_) (fun c_175 => ?_)
            · skip
              exfalso; omega
            · skip
              have J2 : V E X 0 0 n M 352 [some (.ref o), some (.int (iI (h : Int))), some (.int (iI (A.1 618))), some (.int (iI (sumI (fun c => realDays A.1 (h : Int) c 0 999 (A.1 618)) i + realDays A.1 (h : Int) (i : Int) 0 999 (A.1 618)))), some (.int (iI (sumI (fun c => bI (hasV A.1 (h : Int) c)) i + bI (hasV A.1 (h : Int) (i : Int))))), some (.int (iI (z5 + bI (False)))), some (.int (iI 1)), some (.int (iI (i : Int))), some (.int (iI (bI (A.1 (103 * (h : Int) + 0) = (i : Int))))), some (.int (iI (-5))), some (.int (iI (-5))), some (.int (iI (hindr A.1 (h : Int) (i : Int) 2))), some (.int (iI (bI (mayBe A.1 (h : Int) (i : Int) (A.1 618)))))] [] := by
                refine V.il11 g0 d_L_areStaysSo_352 ?_
                refine V.iflt g0 d_L_areStaysSo_354 (by omega) (fun c_354 => ?_) (fun c_354 => ?_)
                · skip
                  exfalso; omega
                · skip
                  refine V.il11 g0 d_L_areStaysSo_357 ?_
                  refine V.bipush g0 d_L_areStaysSo_359 (by decide) ?_
                  refine V.icmpge g0 d_L_areStaysSo_361 (by omega) (fun c_361 => ?_) (fun c_361 => ?_)
                  · skip
                    exfalso; omega
                  · skip
                    refine V.il11 g0 d_L_areStaysSo_364 ?_
                    refine V.iconst g0 d_L_areStaysSo_366 ?_
                    refine V.eqb_icmpne (P := hindr A.1 (h : Int) (i : Int) 2 = 1) g0 d_L_areStaysSo_367 d_L_areStaysSo_370 d_L_areStaysSo_371 d_L_areStaysSo_374 (by omega) Iff.rfl ?_
                    refine V.al0 g0 d_L_areStaysSo_375 ?_
                    refine V.il1 g0 d_L_areStaysSo_376 ?_
                    refine V.iconst g0 d_L_areStaysSo_377 ?_
                    refine V.callVp g0 (MT.ans (c_X6_passport hXo hXn hkr (by decide)) (pas1 hk)) ky_X6_passport ki_X6_passport ks2_X6_passport lk_L_47 hXo rfl rfl (Nat.le_of_ble_eq_true rfl) ⟨Nat.zero_le _, Nat.zero_le _⟩ rfl rfl (Nat.le_of_ble_eq_true rfl) d_L_areStaysSo_378 ?_
                    refine V.il7 g0 d_L_areStaysSo_381 ?_
                    refine V.eqb_icmpne (P := A.1 (103 * (h : Int) + 2) = (i : Int)) g0 d_L_areStaysSo_383 d_L_areStaysSo_386 d_L_areStaysSo_387 d_L_areStaysSo_390 (by omega) Iff.rfl ?_
                    rw [bI_e hi.1]
                    refine V.sameNe g0 d_L_areStaysSo_391 ?_
                    have J3 : V E X 0 0 n M 411 [some (.ref o), some (.int (iI (h : Int))), some (.int (iI (A.1 618))), some (.int (iI (sumI (fun c => realDays A.1 (h : Int) c 0 999 (A.1 618)) i + realDays A.1 (h : Int) (i : Int) 0 999 (A.1 618)))), some (.int (iI (sumI (fun c => bI (hasV A.1 (h : Int) c)) i + bI (hasV A.1 (h : Int) (i : Int))))), some (.int (iI (z5 + bI (False)))), some (.int (iI 1)), some (.int (iI (i : Int))), some (.int (iI (bI (A.1 (103 * (h : Int) + 0) = (i : Int))))), some (.int (iI (-5))), some (.int (iI (-5))), some (.int (iI (hindr A.1 (h : Int) (i : Int) 2))), some (.int (iI (bI (mayBe A.1 (h : Int) (i : Int) (A.1 618)))))] [] := by
                      have J4 : V E X 0 0 n M 421 [some (.ref o), some (.int (iI (h : Int))), some (.int (iI (A.1 618))), some (.int (iI (sumI (fun c => realDays A.1 (h : Int) c 0 999 (A.1 618)) i + realDays A.1 (h : Int) (i : Int) 0 999 (A.1 618)))), some (.int (iI (sumI (fun c => bI (hasV A.1 (h : Int) c)) i + bI (hasV A.1 (h : Int) (i : Int))))), some (.int (iI (z5 + bI (False)))), some (.int (iI 1)), some (.int (iI (i : Int))), some (.int (iI (bI (A.1 (103 * (h : Int) + 0) = (i : Int))))), some (.int (iI (-5))), some (.int (iI (-5))), some (.int (iI (hindr A.1 (h : Int) (i : Int) 2))), some (.int (iI (bI (mayBe A.1 (h : Int) (i : Int) (A.1 618)))))] [] := by
                        have J5 : V E X 0 0 n M 438 [some (.ref o), some (.int (iI (h : Int))), some (.int (iI (A.1 618))), some (.int (iI (sumI (fun c => realDays A.1 (h : Int) c 0 999 (A.1 618)) i + realDays A.1 (h : Int) (i : Int) 0 999 (A.1 618)))), some (.int (iI (sumI (fun c => bI (hasV A.1 (h : Int) c)) i + bI (hasV A.1 (h : Int) (i : Int))))), some (.int (iI (z5 + bI (False)))), some (.int (iI 1)), some (.int (iI (i : Int))), some (.int (iI (bI (A.1 (103 * (h : Int) + 0) = (i : Int))))), some (.int (iI (-5))), some (.int (iI (-5))), some (.int (iI (hindr A.1 (h : Int) (i : Int) 2))), some (.int (iI (bI (mayBe A.1 (h : Int) (i : Int) (A.1 618)))))] [] := by
                          have J6 : V E X 0 0 n M 456 [some (.ref o), some (.int (iI (h : Int))), some (.int (iI (A.1 618))), some (.int (iI (sumI (fun c => realDays A.1 (h : Int) c 0 999 (A.1 618)) i + realDays A.1 (h : Int) (i : Int) 0 999 (A.1 618)))), some (.int (iI (sumI (fun c => bI (hasV A.1 (h : Int) c)) i + bI (hasV A.1 (h : Int) (i : Int))))), some (.int (iI (z5 + bI (False)))), some (.int (iI 1)), some (.int (iI (i : Int))), some (.int (iI (bI (A.1 (103 * (h : Int) + 0) = (i : Int))))), some (.int (iI (-5))), some (.int (iI (-5))), some (.int (iI (hindr A.1 (h : Int) (i : Int) 2))), some (.int (iI (bI (mayBe A.1 (h : Int) (i : Int) (A.1 618)))))] [] := by
                            refine V.iconst g0 d_L_areStaysSo_456 ?_
                            refine V.goto g0 d_L_areStaysSo_457 ?_
                            refine V.is6 g0 d_L_areStaysSo_461 ?_
                            refine V.inc7 g0 d_L_areStaysSo_463 ?_
                            refine V.goto g0 d_L_areStaysSo_466 ?_
                            exact V.weak2 (ih1 (f1 - 1) (by omega) (i + 1) _ (by omega)) (lcLe_s (lcLe_s (lcLe_s (lcLe_s (lcLe_s (lcLe_s (lcLe_s (lcLe_s (lcLe_f (lcLe_f (lcLe_f (lcLe_f (lcLe_f lcLe_n)))))))))))))
                          refine V.il11 g0 d_L_areStaysSo_438 ?_
                          refine V.iconst g0 d_L_areStaysSo_440 ?_
                          refine V.icmpne g0 d_L_areStaysSo_441 (by omega) (fun c_441 => ?_) (fun c_441 => ?_)
                          · skip
                            exact J6
                          · skip
                            refine V.al0 g0 d_L_areStaysSo_444 ?_
                            refine V.il1 g0 d_L_areStaysSo_445 ?_
                            refine V.il7 g0 d_L_areStaysSo_446 ?_
                            refine V.iconst g0 d_L_areStaysSo_448 ?_
                            refine V.callVp g0 (MT.ans (c_X6_visa hXo hXn hkr (by constructor <;> omega) (by decide)) (vis_n hk hc (by decide) hv)) ky_X6_visa ki_X6_visa ks2_X6_visa lk_L_53 hXo rfl rfl (Nat.le_of_ble_eq_true rfl) ⟨Nat.zero_le _, Nat.zero_le _⟩ rfl rfl (Nat.le_of_ble_eq_true rfl) d_L_areStaysSo_449 ?_
                            refine V.iconst g0 d_L_areStaysSo_452 ?_
                            refine V.icmpeq g0 d_L_areStaysSo_453 (by decide) (fun c_453 => ?_) (fun c_453 => ?_)
                            · skip
                              exact absurd c_453 (by decide)
                            · skip
                              exact J6
                        refine V.il11 g0 d_L_areStaysSo_421 ?_
                        refine V.iconst g0 d_L_areStaysSo_423 ?_
                        refine V.icmpne g0 d_L_areStaysSo_424 (by omega) (fun c_424 => ?_) (fun c_424 => ?_)
                        · skip
                          exact J5
                        · skip
                          refine V.al0 g0 d_L_areStaysSo_427 ?_
                          refine V.il1 g0 d_L_areStaysSo_428 ?_
                          refine V.iconst g0 d_L_areStaysSo_429 ?_
                          refine V.callVp g0 (MT.ans (c_X6_passport hXo hXn hkr (by decide)) (pas3 hk)) ky_X6_passport ki_X6_passport ks2_X6_passport lk_L_47 hXo rfl rfl (Nat.le_of_ble_eq_true rfl) ⟨Nat.zero_le _, Nat.zero_le _⟩ rfl rfl (Nat.le_of_ble_eq_true rfl) d_L_areStaysSo_430 ?_
                          refine V.bipush g0 d_L_areStaysSo_433 (by decide) ?_
                          have h16 := hi.2.2.2.2.2.1 c_424
                          refine V.icmple g0 d_L_areStaysSo_435 (by omega) (fun c_435 => ?_) (fun c_435 => ?_)
                          · skip
                            exfalso; omega
                          · skip
                            exact J5
                      refine V.il11 g0 d_L_areStaysSo_411 ?_
                      refine V.ifne g0 d_L_areStaysSo_413 (by omega) (fun c_413 => ?_) (fun c_413 => ?_)
                      · skip
                        exact J4
                      · skip
                        refine V.il12 g0 d_L_areStaysSo_416 ?_
                        refine V.ifeqB g0 d_L_areStaysSo_418 (fun c_418 => ?_) (fun c_418 => ?_)
                        · skip
                          exact absurd (hi.2.2.1.mp (Or.inl c_413)).2.2 c_418
                        · skip
                          exact J4
                    refine V.il11 g0 d_L_areStaysSo_394 ?_
                    refine V.iconst g0 d_L_areStaysSo_396 ?_
                    refine V.icmplt g0 d_L_areStaysSo_397 (by omega) (fun c_397 => ?_) (fun c_397 => ?_)
                    · skip
                      exact J3
                    · skip
                      refine V.il11 g0 d_L_areStaysSo_400 ?_
                      refine V.iconst g0 d_L_areStaysSo_402 ?_
                      refine V.icmpgt g0 d_L_areStaysSo_403 (by omega) (fun c_403 => ?_) (fun c_403 => ?_)
                      · skip
                        exact J3
                      · skip
                        refine V.il12 g0 d_L_areStaysSo_406 ?_
                        refine V.ifneB g0 d_L_areStaysSo_408 (fun c_408 => ?_) (fun c_408 => ?_)
                        · skip
                          exact ((show hindr A.1 (h : Int) (i : Int) 2 = 3 ∨ hindr A.1 (h : Int) (i : Int) 2 = 4 by omega).elim (fun z => hi.2.2.2.2.2.2.1 z c_408) (fun z => hi.2.2.2.2.1 z c_408)).elim
                        · skip
                          exact J3
              refine V.il9 g0 d_L_areStaysSo_178 ?_
              refine V.ifge g0 d_L_areStaysSo_180 (by omega) (fun c_180 => ?_) (fun c_180 => ?_)
              · skip
                exfalso; omega
              · skip
                refine V.il10 g0 d_L_areStaysSo_183 ?_
                refine V.bipush g0 d_L_areStaysSo_185 (by decide) ?_
                refine V.sameNe g0 d_L_areStaysSo_187 ?_
                refine V.al0 g0 d_L_areStaysSo_190 ?_
                refine V.il1 g0 d_L_areStaysSo_191 ?_
                refine V.il7 g0 d_L_areStaysSo_192 ?_
                refine V.callVp g0 (MT.ans (c_X6_daysLeft hXo hXn hkr (by constructor <;> omega)) (lft_n hk hc hv)) ky_X6_daysLeft ki_X6_daysLeft ks2_X6_daysLeft lk_L_63 hXo rfl rfl (Nat.le_of_ble_eq_true rfl) ⟨Nat.zero_le _, Nat.zero_le _⟩ rfl rfl (Nat.le_of_ble_eq_true rfl) d_L_areStaysSo_194 ?_
                refine V.bipush g0 d_L_areStaysSo_197 (by decide) ?_
                refine V.sameNe g0 d_L_areStaysSo_199 ?_
                refine V.goto g0 d_L_areStaysSo_202 ?_
                exact J2
        refine V.il8 g0 d_L_areStaysSo_74 ?_
        refine V.ifneB g0 d_L_areStaysSo_76 (fun c_76 => ?_) (fun c_76 => ?_)
        · skip
          refine V.iconst g0 d_L_areStaysSo_98 ?_
          refine V.goto g0 d_L_areStaysSo_99 ?_
          exact V.eqS1 (show (1 : Int) = bI (mayBe A.1 (h : Int) (i : Int) (A.1 618)) from (bI_t (Or.inl c_76)).symm) J1
        · skip
          refine V.al0 g0 d_L_areStaysSo_79 ?_
          refine V.il1 g0 d_L_areStaysSo_80 ?_
          refine V.il7 g0 d_L_areStaysSo_81 ?_
          refine V.iconst g0 d_L_areStaysSo_83 ?_
          refine V.callVp g0 (MT.ans (c_X6_visa hXo hXn hkr (by constructor <;> omega) (by decide)) (vis_n hk hc (by decide) hv)) ky_X6_visa ki_X6_visa ks2_X6_visa lk_L_53 hXo rfl rfl (Nat.le_of_ble_eq_true rfl) ⟨Nat.zero_le _, Nat.zero_le _⟩ rfl rfl (Nat.le_of_ble_eq_true rfl) d_L_areStaysSo_84 ?_
          refine V.iconst g0 d_L_areStaysSo_87 ?_
          refine V.icmpne g0 d_L_areStaysSo_88 (by decide) (fun c_88 => ?_) (fun c_88 => ?_)
          · skip
            refine V.iconst g0 d_L_areStaysSo_102 ?_
            exact V.eqS1 (show (0 : Int) = bI (mayBe A.1 (h : Int) (i : Int) (A.1 618)) from (bI_f (fun q => q.elim c_76 (fun z => hv z.1.1))).symm) J1
          · skip
            exfalso; omega
  exact LP1 6 0 0 (by omega)
