theorem sumOf_3 {s : Int → Int} {kn ln : Int} : q_count s kn ln 3 = sumI (fun p => s (103 * p + 3)) (s 619).toNat := sumI_c fun i hi => rfl
theorem sumOf_4 {s : Int → Int} {kn ln : Int} : q_count s kn ln 4 = sumI (fun p => s (103 * p + 4)) (s 619).toNat := sumI_c fun i hi => rfl
theorem sumOf_5 {s : Int → Int} {kn ln : Int} : q_count s kn ln 5 = sumI (fun p => s (103 * p + 8)) (s 619).toNat := sumI_c fun i hi => rfl
theorem sumOf_6 {s : Int → Int} {kn ln : Int} : q_count s kn ln 6 = sumI (fun p => gapsOf s p) (s 619).toNat := sumI_c fun i hi => rfl
theorem sumOf_7 {s : Int → Int} {kn ln : Int} : q_count s kn ln 7 = sumI (fun p => visN s p 0) (s 619).toNat := sumI_c fun i hi => rfl
theorem sumOf_8 {s : Int → Int} {kn ln : Int} : q_count s kn ln 8 = sumI (fun p => visN s p 1) (s 619).toNat := sumI_c fun i hi => rfl
theorem d_L_areSums_0 : Dc cL_areSums 0 1 1 (.iconst 0) := ⟨by decide +kernel, rfl⟩
theorem d_L_areSums_1 : Dc cL_areSums 1 1 2 (.istore_n 1) := ⟨by decide +kernel, rfl⟩
theorem d_L_areSums_2 : Dc cL_areSums 2 1 3 (.iconst 0) := ⟨by decide +kernel, rfl⟩
theorem d_L_areSums_3 : Dc cL_areSums 3 1 4 (.istore_n 2) := ⟨by decide +kernel, rfl⟩
theorem d_L_areSums_4 : Dc cL_areSums 4 1 5 (.iconst 0) := ⟨by decide +kernel, rfl⟩
theorem d_L_areSums_5 : Dc cL_areSums 5 1 6 (.istore_n 3) := ⟨by decide +kernel, rfl⟩
theorem d_L_areSums_6 : Dc cL_areSums 6 1 7 (.iconst 0) := ⟨by decide +kernel, rfl⟩
theorem d_L_areSums_7 : Dc cL_areSums 7 2 9 (.istore 4) := ⟨by decide +kernel, rfl⟩
theorem d_L_areSums_9 : Dc cL_areSums 9 1 10 (.iconst 0) := ⟨by decide +kernel, rfl⟩
theorem d_L_areSums_10 : Dc cL_areSums 10 2 12 (.istore 5) := ⟨by decide +kernel, rfl⟩
theorem d_L_areSums_12 : Dc cL_areSums 12 1 13 (.iconst 0) := ⟨by decide +kernel, rfl⟩
theorem d_L_areSums_13 : Dc cL_areSums 13 2 15 (.istore 6) := ⟨by decide +kernel, rfl⟩
theorem d_L_areSums_15 : Dc cL_areSums 15 1 16 (.iconst 1) := ⟨by decide +kernel, rfl⟩
theorem d_L_areSums_16 : Dc cL_areSums 16 2 18 (.istore 7) := ⟨by decide +kernel, rfl⟩
theorem d_L_areSums_18 : Dc cL_areSums 18 1 19 (.iconst 0) := ⟨by decide +kernel, rfl⟩
theorem d_L_areSums_19 : Dc cL_areSums 19 2 21 (.istore 8) := ⟨by decide +kernel, rfl⟩
theorem d_L_areSums_21 : Dc cL_areSums 21 2 23 (.iload 8) := ⟨by decide +kernel, rfl⟩
theorem d_L_areSums_23 : Dc cL_areSums 23 1 24 (.aload_n 0) := ⟨by decide +kernel, rfl⟩
theorem d_L_areSums_24 : Dc cL_areSums 24 1 25 (.iconst 1) := ⟨by decide +kernel, rfl⟩
theorem d_L_areSums_25 : Dc cL_areSums 25 3 28 (.invokevirtual 14) := ⟨by decide +kernel, rfl⟩
theorem d_L_areSums_28 : Dj cL_areSums 28 31 93 (.if_icmp .ge) := ⟨65, by decide +kernel, rfl, by decide⟩
theorem d_L_areSums_31 : Dc cL_areSums 31 1 32 (.iload_n 1) := ⟨by decide +kernel, rfl⟩
theorem d_L_areSums_32 : Dc cL_areSums 32 1 33 (.aload_n 0) := ⟨by decide +kernel, rfl⟩
theorem d_L_areSums_33 : Dc cL_areSums 33 2 35 (.iload 8) := ⟨by decide +kernel, rfl⟩
theorem d_L_areSums_35 : Dc cL_areSums 35 1 36 (.iconst 5) := ⟨by decide +kernel, rfl⟩
theorem d_L_areSums_36 : Dc cL_areSums 36 3 39 (.invokevirtual 47) := ⟨by decide +kernel, rfl⟩
theorem d_L_areSums_39 : Dc cL_areSums 39 1 40 .iadd := ⟨by decide +kernel, rfl⟩
theorem d_L_areSums_40 : Dc cL_areSums 40 1 41 (.istore_n 1) := ⟨by decide +kernel, rfl⟩
theorem d_L_areSums_41 : Dc cL_areSums 41 1 42 (.iload_n 2) := ⟨by decide +kernel, rfl⟩
theorem d_L_areSums_42 : Dc cL_areSums 42 1 43 (.aload_n 0) := ⟨by decide +kernel, rfl⟩
theorem d_L_areSums_43 : Dc cL_areSums 43 2 45 (.iload 8) := ⟨by decide +kernel, rfl⟩
theorem d_L_areSums_45 : Dc cL_areSums 45 2 47 (.bipush 6) := ⟨by decide +kernel, rfl⟩
theorem d_L_areSums_47 : Dc cL_areSums 47 3 50 (.invokevirtual 47) := ⟨by decide +kernel, rfl⟩
theorem d_L_areSums_50 : Dc cL_areSums 50 1 51 .iadd := ⟨by decide +kernel, rfl⟩
theorem d_L_areSums_51 : Dc cL_areSums 51 1 52 (.istore_n 2) := ⟨by decide +kernel, rfl⟩
theorem d_L_areSums_52 : Dc cL_areSums 52 1 53 (.iload_n 3) := ⟨by decide +kernel, rfl⟩
theorem d_L_areSums_53 : Dc cL_areSums 53 1 54 (.aload_n 0) := ⟨by decide +kernel, rfl⟩
theorem d_L_areSums_54 : Dc cL_areSums 54 2 56 (.iload 8) := ⟨by decide +kernel, rfl⟩
theorem d_L_areSums_56 : Dc cL_areSums 56 1 57 (.iconst 3) := ⟨by decide +kernel, rfl⟩
theorem d_L_areSums_57 : Dc cL_areSums 57 3 60 (.invokevirtual 47) := ⟨by decide +kernel, rfl⟩
theorem d_L_areSums_60 : Dc cL_areSums 60 1 61 .iadd := ⟨by decide +kernel, rfl⟩
theorem d_L_areSums_61 : Dc cL_areSums 61 1 62 (.istore_n 3) := ⟨by decide +kernel, rfl⟩
theorem d_L_areSums_62 : Dc cL_areSums 62 2 64 (.iload 4) := ⟨by decide +kernel, rfl⟩
theorem d_L_areSums_64 : Dc cL_areSums 64 1 65 (.aload_n 0) := ⟨by decide +kernel, rfl⟩
theorem d_L_areSums_65 : Dc cL_areSums 65 2 67 (.iload 8) := ⟨by decide +kernel, rfl⟩
theorem d_L_areSums_67 : Dc cL_areSums 67 1 68 (.iconst 4) := ⟨by decide +kernel, rfl⟩
theorem d_L_areSums_68 : Dc cL_areSums 68 3 71 (.invokevirtual 47) := ⟨by decide +kernel, rfl⟩
theorem d_L_areSums_71 : Dc cL_areSums 71 1 72 .iadd := ⟨by decide +kernel, rfl⟩
theorem d_L_areSums_72 : Dc cL_areSums 72 2 74 (.istore 4) := ⟨by decide +kernel, rfl⟩
theorem d_L_areSums_74 : Dc cL_areSums 74 2 76 (.iload 5) := ⟨by decide +kernel, rfl⟩
theorem d_L_areSums_76 : Dc cL_areSums 76 1 77 (.aload_n 0) := ⟨by decide +kernel, rfl⟩
theorem d_L_areSums_77 : Dc cL_areSums 77 2 79 (.iload 8) := ⟨by decide +kernel, rfl⟩
theorem d_L_areSums_79 : Dc cL_areSums 79 2 81 (.bipush 8) := ⟨by decide +kernel, rfl⟩
theorem d_L_areSums_81 : Dc cL_areSums 81 3 84 (.invokevirtual 47) := ⟨by decide +kernel, rfl⟩
theorem d_L_areSums_84 : Dc cL_areSums 84 1 85 .iadd := ⟨by decide +kernel, rfl⟩
theorem d_L_areSums_85 : Dc cL_areSums 85 2 87 (.istore 5) := ⟨by decide +kernel, rfl⟩
theorem d_L_areSums_87 : Dc cL_areSums 87 3 90 (.iinc 8 1) := ⟨by decide +kernel, rfl⟩
theorem d_L_areSums_90 : Dj cL_areSums 90 93 21 .goto := ⟨(-69), by decide +kernel, rfl, by decide⟩
theorem d_L_areSums_93 : Dc cL_areSums 93 1 94 (.iconst 0) := ⟨by decide +kernel, rfl⟩
theorem d_L_areSums_94 : Dc cL_areSums 94 2 96 (.istore 8) := ⟨by decide +kernel, rfl⟩
theorem d_L_areSums_96 : Dc cL_areSums 96 2 98 (.iload 8) := ⟨by decide +kernel, rfl⟩
theorem d_L_areSums_98 : Dc cL_areSums 98 2 100 (.bipush 6) := ⟨by decide +kernel, rfl⟩
theorem d_L_areSums_100 : Dj cL_areSums 100 103 173 (.if_icmp .ge) := ⟨73, by decide +kernel, rfl, by decide⟩
theorem d_L_areSums_103 : Dc cL_areSums 103 2 105 (.iload 7) := ⟨by decide +kernel, rfl⟩
theorem d_L_areSums_105 : Dj cL_areSums 105 108 152 (.ifCond .eq) := ⟨47, by decide +kernel, rfl, by decide⟩
theorem d_L_areSums_108 : Dc cL_areSums 108 2 110 (.iload 6) := ⟨by decide +kernel, rfl⟩
theorem d_L_areSums_110 : Dc cL_areSums 110 1 111 (.aload_n 0) := ⟨by decide +kernel, rfl⟩
theorem d_L_areSums_111 : Dc cL_areSums 111 2 113 (.iload 8) := ⟨by decide +kernel, rfl⟩
theorem d_L_areSums_113 : Dc cL_areSums 113 1 114 (.iconst 0) := ⟨by decide +kernel, rfl⟩
theorem d_L_areSums_114 : Dc cL_areSums 114 3 117 (.invokevirtual 69) := ⟨by decide +kernel, rfl⟩
theorem d_L_areSums_117 : Dc cL_areSums 117 1 118 .iand := ⟨by decide +kernel, rfl⟩
theorem d_L_areSums_118 : Dj cL_areSums 118 121 152 (.ifCond .ne) := ⟨34, by decide +kernel, rfl, by decide⟩
theorem d_L_areSums_121 : Dc cL_areSums 121 1 122 (.aload_n 0) := ⟨by decide +kernel, rfl⟩
theorem d_L_areSums_122 : Dc cL_areSums 122 2 124 (.iload 8) := ⟨by decide +kernel, rfl⟩
theorem d_L_areSums_124 : Dc cL_areSums 124 1 125 (.iconst 1) := ⟨by decide +kernel, rfl⟩
theorem d_L_areSums_125 : Dc cL_areSums 125 3 128 (.invokevirtual 69) := ⟨by decide +kernel, rfl⟩
theorem d_L_areSums_128 : Dc cL_areSums 128 1 129 (.aload_n 0) := ⟨by decide +kernel, rfl⟩
theorem d_L_areSums_129 : Dc cL_areSums 129 3 132 (.invokevirtual 43) := ⟨by decide +kernel, rfl⟩
theorem d_L_areSums_132 : Dc cL_areSums 132 1 133 (.iconst (-1)) := ⟨by decide +kernel, rfl⟩
theorem d_L_areSums_133 : Dc cL_areSums 133 1 134 .ixor := ⟨by decide +kernel, rfl⟩
theorem d_L_areSums_134 : Dc cL_areSums 134 1 135 .iand := ⟨by decide +kernel, rfl⟩
theorem d_L_areSums_135 : Dc cL_areSums 135 1 136 (.aload_n 0) := ⟨by decide +kernel, rfl⟩
theorem d_L_areSums_136 : Dc cL_areSums 136 2 138 (.iload 8) := ⟨by decide +kernel, rfl⟩
theorem d_L_areSums_138 : Dc cL_areSums 138 1 139 (.iconst 0) := ⟨by decide +kernel, rfl⟩
theorem d_L_areSums_139 : Dc cL_areSums 139 3 142 (.invokevirtual 69) := ⟨by decide +kernel, rfl⟩
theorem d_L_areSums_142 : Dc cL_areSums 142 1 143 (.iconst (-1)) := ⟨by decide +kernel, rfl⟩
theorem d_L_areSums_143 : Dc cL_areSums 143 1 144 .ixor := ⟨by decide +kernel, rfl⟩
theorem d_L_areSums_144 : Dc cL_areSums 144 1 145 .iand := ⟨by decide +kernel, rfl⟩
theorem d_L_areSums_145 : Dj cL_areSums 145 148 152 (.ifCond .ne) := ⟨7, by decide +kernel, rfl, by decide⟩
theorem d_L_areSums_148 : Dc cL_areSums 148 1 149 (.iconst 1) := ⟨by decide +kernel, rfl⟩
theorem d_L_areSums_149 : Dj cL_areSums 149 152 153 .goto := ⟨4, by decide +kernel, rfl, by decide⟩
theorem d_L_areSums_152 : Dc cL_areSums 152 1 153 (.iconst 0) := ⟨by decide +kernel, rfl⟩
theorem d_L_areSums_153 : Dc cL_areSums 153 2 155 (.istore 7) := ⟨by decide +kernel, rfl⟩
theorem d_L_areSums_155 : Dc cL_areSums 155 2 157 (.iload 6) := ⟨by decide +kernel, rfl⟩
theorem d_L_areSums_157 : Dc cL_areSums 157 1 158 (.aload_n 0) := ⟨by decide +kernel, rfl⟩
theorem d_L_areSums_158 : Dc cL_areSums 158 2 160 (.iload 8) := ⟨by decide +kernel, rfl⟩
theorem d_L_areSums_160 : Dc cL_areSums 160 1 161 (.iconst 0) := ⟨by decide +kernel, rfl⟩
theorem d_L_areSums_161 : Dc cL_areSums 161 3 164 (.invokevirtual 69) := ⟨by decide +kernel, rfl⟩
theorem d_L_areSums_164 : Dc cL_areSums 164 1 165 .ior := ⟨by decide +kernel, rfl⟩
theorem d_L_areSums_165 : Dc cL_areSums 165 2 167 (.istore 6) := ⟨by decide +kernel, rfl⟩
theorem d_L_areSums_167 : Dc cL_areSums 167 3 170 (.iinc 8 1) := ⟨by decide +kernel, rfl⟩
theorem d_L_areSums_170 : Dj cL_areSums 170 173 96 .goto := ⟨(-74), by decide +kernel, rfl, by decide⟩
theorem d_L_areSums_173 : Dc cL_areSums 173 2 175 (.iload 7) := ⟨by decide +kernel, rfl⟩
theorem d_L_areSums_175 : Dj cL_areSums 175 178 286 (.ifCond .eq) := ⟨111, by decide +kernel, rfl, by decide⟩
theorem d_L_areSums_178 : Dc cL_areSums 178 2 180 (.iload 6) := ⟨by decide +kernel, rfl⟩
theorem d_L_areSums_180 : Dc cL_areSums 180 1 181 (.iconst 1) := ⟨by decide +kernel, rfl⟩
theorem d_L_areSums_181 : Dc cL_areSums 181 1 182 (.aload_n 0) := ⟨by decide +kernel, rfl⟩
theorem d_L_areSums_182 : Dc cL_areSums 182 1 183 (.iconst 1) := ⟨by decide +kernel, rfl⟩
theorem d_L_areSums_183 : Dc cL_areSums 183 3 186 (.invokevirtual 14) := ⟨by decide +kernel, rfl⟩
theorem d_L_areSums_186 : Dc cL_areSums 186 1 187 .ishl := ⟨by decide +kernel, rfl⟩
theorem d_L_areSums_187 : Dc cL_areSums 187 1 188 (.iconst 1) := ⟨by decide +kernel, rfl⟩
theorem d_L_areSums_188 : Dc cL_areSums 188 1 189 .isub := ⟨by decide +kernel, rfl⟩
theorem d_L_areSums_189 : Dj cL_areSums 189 192 286 (.if_icmp .ne) := ⟨97, by decide +kernel, rfl, by decide⟩
theorem d_L_areSums_192 : Dc cL_areSums 192 1 193 (.iload_n 1) := ⟨by decide +kernel, rfl⟩
theorem d_L_areSums_193 : Dc cL_areSums 193 1 194 (.aload_n 0) := ⟨by decide +kernel, rfl⟩
theorem d_L_areSums_194 : Dc cL_areSums 194 1 195 (.iconst 3) := ⟨by decide +kernel, rfl⟩
theorem d_L_areSums_195 : Dc cL_areSums 195 3 198 (.invokevirtual 14) := ⟨by decide +kernel, rfl⟩
theorem d_L_areSums_198 : Dj cL_areSums 198 201 286 (.if_icmp .ne) := ⟨88, by decide +kernel, rfl, by decide⟩
theorem d_L_areSums_201 : Dc cL_areSums 201 1 202 (.iload_n 2) := ⟨by decide +kernel, rfl⟩
theorem d_L_areSums_202 : Dc cL_areSums 202 1 203 (.aload_n 0) := ⟨by decide +kernel, rfl⟩
theorem d_L_areSums_203 : Dc cL_areSums 203 1 204 (.iconst 4) := ⟨by decide +kernel, rfl⟩
theorem d_L_areSums_204 : Dc cL_areSums 204 3 207 (.invokevirtual 14) := ⟨by decide +kernel, rfl⟩
theorem d_L_areSums_207 : Dj cL_areSums 207 210 286 (.if_icmp .ne) := ⟨79, by decide +kernel, rfl, by decide⟩
theorem d_L_areSums_210 : Dc cL_areSums 210 1 211 (.iload_n 3) := ⟨by decide +kernel, rfl⟩
theorem d_L_areSums_211 : Dc cL_areSums 211 1 212 (.aload_n 0) := ⟨by decide +kernel, rfl⟩
theorem d_L_areSums_212 : Dc cL_areSums 212 1 213 (.iconst 5) := ⟨by decide +kernel, rfl⟩
theorem d_L_areSums_213 : Dc cL_areSums 213 3 216 (.invokevirtual 14) := ⟨by decide +kernel, rfl⟩
theorem d_L_areSums_216 : Dj cL_areSums 216 219 286 (.if_icmp .ne) := ⟨70, by decide +kernel, rfl, by decide⟩
theorem d_L_areSums_219 : Dc cL_areSums 219 2 221 (.iload 4) := ⟨by decide +kernel, rfl⟩
theorem d_L_areSums_221 : Dc cL_areSums 221 1 222 (.aload_n 0) := ⟨by decide +kernel, rfl⟩
theorem d_L_areSums_222 : Dc cL_areSums 222 2 224 (.bipush 6) := ⟨by decide +kernel, rfl⟩
theorem d_L_areSums_224 : Dc cL_areSums 224 3 227 (.invokevirtual 14) := ⟨by decide +kernel, rfl⟩
theorem d_L_areSums_227 : Dj cL_areSums 227 230 286 (.if_icmp .ne) := ⟨59, by decide +kernel, rfl, by decide⟩
theorem d_L_areSums_230 : Dc cL_areSums 230 2 232 (.iload 5) := ⟨by decide +kernel, rfl⟩
theorem d_L_areSums_232 : Dc cL_areSums 232 1 233 (.aload_n 0) := ⟨by decide +kernel, rfl⟩
theorem d_L_areSums_233 : Dc cL_areSums 233 2 235 (.bipush 7) := ⟨by decide +kernel, rfl⟩
theorem d_L_areSums_235 : Dc cL_areSums 235 3 238 (.invokevirtual 14) := ⟨by decide +kernel, rfl⟩
theorem d_L_areSums_238 : Dj cL_areSums 238 241 286 (.if_icmp .ne) := ⟨48, by decide +kernel, rfl, by decide⟩
theorem d_L_areSums_241 : Dc cL_areSums 241 1 242 (.aload_n 0) := ⟨by decide +kernel, rfl⟩
theorem d_L_areSums_242 : Dc cL_areSums 242 2 244 (.bipush 8) := ⟨by decide +kernel, rfl⟩
theorem d_L_areSums_244 : Dc cL_areSums 244 3 247 (.invokevirtual 14) := ⟨by decide +kernel, rfl⟩
theorem d_L_areSums_247 : Dc cL_areSums 247 2 249 (.iload 5) := ⟨by decide +kernel, rfl⟩
theorem d_L_areSums_249 : Dj cL_areSums 249 252 286 (.if_icmp .gt) := ⟨37, by decide +kernel, rfl, by decide⟩
theorem d_L_areSums_252 : Dc cL_areSums 252 1 253 (.aload_n 0) := ⟨by decide +kernel, rfl⟩
theorem d_L_areSums_253 : Dc cL_areSums 253 2 255 (.bipush 9) := ⟨by decide +kernel, rfl⟩
theorem d_L_areSums_255 : Dc cL_areSums 255 3 258 (.invokevirtual 14) := ⟨by decide +kernel, rfl⟩
theorem d_L_areSums_258 : Dc cL_areSums 258 1 259 (.iconst 2) := ⟨by decide +kernel, rfl⟩
theorem d_L_areSums_259 : Dc cL_areSums 259 1 260 (.iload_n 1) := ⟨by decide +kernel, rfl⟩
theorem d_L_areSums_260 : Dc cL_areSums 260 1 261 .imul := ⟨by decide +kernel, rfl⟩
theorem d_L_areSums_261 : Dj cL_areSums 261 264 286 (.if_icmp .gt) := ⟨25, by decide +kernel, rfl, by decide⟩
theorem d_L_areSums_264 : Dc cL_areSums 264 1 265 (.aload_n 0) := ⟨by decide +kernel, rfl⟩
theorem d_L_areSums_265 : Dc cL_areSums 265 1 266 (.iconst 2) := ⟨by decide +kernel, rfl⟩
theorem d_L_areSums_266 : Dc cL_areSums 266 3 269 (.invokevirtual 14) := ⟨by decide +kernel, rfl⟩
theorem d_L_areSums_269 : Dj cL_areSums 269 272 286 (.ifCond .lt) := ⟨17, by decide +kernel, rfl, by decide⟩
theorem d_L_areSums_272 : Dc cL_areSums 272 1 273 (.aload_n 0) := ⟨by decide +kernel, rfl⟩
theorem d_L_areSums_273 : Dc cL_areSums 273 1 274 (.iconst 2) := ⟨by decide +kernel, rfl⟩
theorem d_L_areSums_274 : Dc cL_areSums 274 3 277 (.invokevirtual 14) := ⟨by decide +kernel, rfl⟩
theorem d_L_areSums_277 : Dc cL_areSums 277 2 279 (.bipush 16) := ⟨by decide +kernel, rfl⟩
theorem d_L_areSums_279 : Dj cL_areSums 279 282 286 (.if_icmp .ge) := ⟨7, by decide +kernel, rfl, by decide⟩
theorem d_L_areSums_282 : Dc cL_areSums 282 1 283 (.iconst 1) := ⟨by decide +kernel, rfl⟩
theorem d_L_areSums_283 : Dj cL_areSums 283 286 287 .goto := ⟨4, by decide +kernel, rfl, by decide⟩
theorem d_L_areSums_286 : Dc cL_areSums 286 1 287 (.iconst 0) := ⟨by decide +kernel, rfl⟩
theorem d_L_areSums_287 : decode cL_areSums 287 = .ok (.ireturn, 1) := by decide +kernel
set_option maxHeartbeats 4000000 in
set_option maxRecDepth 20000 in
theorem c_L_areSums {E : Ev} {n : Nat} {M : Mem} {w o : Nat} {A : AS} (hX : XR E M w n o A) {e : Int} (hI : Inv A.1 e) : MT E yL_areSums cL_areSums 9 (some .boolean) 7 0 0 [.ref o] n M (PF (some (.int (iI (1)))) n M) := by
  refine MT.of (by decide) rfl (Nat.le_of_ble_eq_true rfl) ?_
  intro X g
  have g0 := g.1
  show V E X 0 0 n M 0 [some (.ref o), none, none, none, none, none, none, none, none] []
  obtain ⟨fs, hXo, hXn⟩ := hX.now
  have hO : Ok A.1 := hXn.ok
  have hm := hO.many
  have hn6 : (A.1 619).toNat ≤ 6 := by omega
  refine V.iconst g0 d_L_areSums_0 ?_
  refine V.is1 g0 d_L_areSums_1 ?_
  refine V.iconst g0 d_L_areSums_2 ?_
  refine V.is2 g0 d_L_areSums_3 ?_
  refine V.iconst g0 d_L_areSums_4 ?_
  refine V.is3 g0 d_L_areSums_5 ?_
  refine V.iconst g0 d_L_areSums_6 ?_
  refine V.is4 g0 d_L_areSums_7 ?_
  refine V.iconst g0 d_L_areSums_9 ?_
  refine V.is5 g0 d_L_areSums_10 ?_
  refine V.iconst g0 d_L_areSums_12 ?_
  refine V.is6 g0 d_L_areSums_13 ?_
  refine V.iconst g0 d_L_areSums_15 ?_
  refine V.is7 g0 d_L_areSums_16 ?_
  refine V.iconst g0 d_L_areSums_18 ?_
  refine V.is8 g0 d_L_areSums_19 ?_
  have LP1 : ∀ (f1 i : Nat), i + f1 = (A.1 619).toNat → V E X 0 0 n M 21 [some (.ref o), some (.int (iI (sumI (fun p => A.1 (103 * p + 3)) i))), some (.int (iI (sumI (fun p => A.1 (103 * p + 4)) i))), some (.int (iI (sumI (fun p => A.1 (103 * p + 8)) i))), some (.int (iI (sumI (fun p => gapsOf A.1 p) i))), some (.int (iI (sumI (fun p => visN A.1 p 0) i))), some (.int (iI 0)), some (.int (iI 1)), some (.int (iI (i : Int)))] [] := by
    intro f1
    induction f1 using Nat.strongRecOn with
    | _ f1 ih1 =>
    intro i hf1
    refine V.il8 g0 d_L_areSums_21 ?_
    refine V.al0 g0 d_L_areSums_23 ?_
    refine V.iconst g0 d_L_areSums_24 ?_
    refine V.callVp g0 (MT.ans (q6_count hX (by decide)) cnt1) ky_X6_count ki_X6_count ks2_X6_count lk_L_14 hXo rfl rfl (Nat.le_of_ble_eq_true rfl) ⟨Nat.zero_le _, Nat.zero_le _⟩ rfl rfl (Nat.le_of_ble_eq_true rfl) d_L_areSums_25 ?_
    refine V.icmpge g0 d_L_areSums_28 (by omega) (fun c_28 => ?_) (fun c_28 => ?_)
    · skip
      have ei : i = (A.1 619).toNat := by omega
      subst ei
      refine V.iconst g0 d_L_areSums_93 ?_
      refine V.is8 g0 d_L_areSums_94 ?_
      have LP2 : ∀ (f2 j : Nat), j + f2 = 6 → V E X 0 0 n M 96 [some (.ref o), some (.int (iI (sumI (fun p => A.1 (103 * p + 3)) (A.1 619).toNat))), some (.int (iI (sumI (fun p => A.1 (103 * p + 4)) (A.1 619).toNat))), some (.int (iI (sumI (fun p => A.1 (103 * p + 8)) (A.1 619).toNat))), some (.int (iI (sumI (fun p => gapsOf A.1 p) (A.1 619).toNat))), some (.int (iI (sumI (fun p => visN A.1 p 0) (A.1 619).toNat))), some (.int (iI (((herN A.1 j : Nat) : Int)))), some (.int (iI 1)), some (.int (iI (j : Int)))] [] := by
        intro f2
        induction f2 using Nat.strongRecOn with
        | _ f2 ih2 =>
        intro j hf2
        refine V.il8 g0 d_L_areSums_96 ?_
        refine V.bipush g0 d_L_areSums_98 (by decide) ?_
        refine V.icmpge g0 d_L_areSums_100 (by omega) (fun c_100 => ?_) (fun c_100 => ?_)
        · skip
          refine V.il7 g0 d_L_areSums_173 ?_
          refine V.ifeq g0 d_L_areSums_175 (by omega) (fun c_175 => ?_) (fun c_175 => ?_)
          · skip
            exfalso; omega
          · skip
            refine V.il6 g0 d_L_areSums_178 ?_
            refine V.iconst g0 d_L_areSums_180 ?_
            refine V.al0 g0 d_L_areSums_181 ?_
            refine V.iconst g0 d_L_areSums_182 ?_
            refine V.callVp g0 (MT.ans (q6_count hX (by decide)) cnt1) ky_X6_count ki_X6_count ks2_X6_count lk_L_14 hXo rfl rfl (Nat.le_of_ble_eq_true rfl) ⟨Nat.zero_le _, Nat.zero_le _⟩ rfl rfl (Nat.le_of_ble_eq_true rfl) d_L_areSums_183 ?_
            refine V.ishl g0 d_L_areSums_186 (iI_shl1 (by omega)) ?_
            refine V.iconst g0 d_L_areSums_187 ?_
            refine V.isub g0 d_L_areSums_188 ?_
            rw [show ((herN A.1 j : Nat) : Int) = ((2 ^ (A.1 619).toNat : Nat) : Int) - 1 by
              rw [show j = 6 by omega, her_all hO]
              have := Nat.one_le_two_pow (n := (A.1 619).toNat)
              omega]
            refine V.sameNe g0 d_L_areSums_189 ?_
            refine V.il1 g0 d_L_areSums_192 ?_
            refine V.al0 g0 d_L_areSums_193 ?_
            refine V.iconst g0 d_L_areSums_194 ?_
            refine V.callVp g0 (MT.ans (q6_count hX (by decide)) sumOf_3) ky_X6_count ki_X6_count ks2_X6_count lk_L_14 hXo rfl rfl (Nat.le_of_ble_eq_true rfl) ⟨Nat.zero_le _, Nat.zero_le _⟩ rfl rfl (Nat.le_of_ble_eq_true rfl) d_L_areSums_195 ?_
            refine V.sameNe g0 d_L_areSums_198 ?_
            refine V.il2 g0 d_L_areSums_201 ?_
            refine V.al0 g0 d_L_areSums_202 ?_
            refine V.iconst g0 d_L_areSums_203 ?_
            refine V.callVp g0 (MT.ans (q6_count hX (by decide)) sumOf_4) ky_X6_count ki_X6_count ks2_X6_count lk_L_14 hXo rfl rfl (Nat.le_of_ble_eq_true rfl) ⟨Nat.zero_le _, Nat.zero_le _⟩ rfl rfl (Nat.le_of_ble_eq_true rfl) d_L_areSums_204 ?_
            refine V.sameNe g0 d_L_areSums_207 ?_
            refine V.il3 g0 d_L_areSums_210 ?_
            refine V.al0 g0 d_L_areSums_211 ?_
            refine V.iconst g0 d_L_areSums_212 ?_
            refine V.callVp g0 (MT.ans (q6_count hX (by decide)) sumOf_5) ky_X6_count ki_X6_count ks2_X6_count lk_L_14 hXo rfl rfl (Nat.le_of_ble_eq_true rfl) ⟨Nat.zero_le _, Nat.zero_le _⟩ rfl rfl (Nat.le_of_ble_eq_true rfl) d_L_areSums_213 ?_
            refine V.sameNe g0 d_L_areSums_216 ?_
            refine V.il4 g0 d_L_areSums_219 ?_
            refine V.al0 g0 d_L_areSums_221 ?_
            refine V.bipush g0 d_L_areSums_222 (by decide) ?_
            refine V.callVp g0 (MT.ans (q6_count hX (by decide)) sumOf_6) ky_X6_count ki_X6_count ks2_X6_count lk_L_14 hXo rfl rfl (Nat.le_of_ble_eq_true rfl) ⟨Nat.zero_le _, Nat.zero_le _⟩ rfl rfl (Nat.le_of_ble_eq_true rfl) d_L_areSums_224 ?_
            refine V.sameNe g0 d_L_areSums_227 ?_
            refine V.il5 g0 d_L_areSums_230 ?_
            refine V.al0 g0 d_L_areSums_232 ?_
            refine V.bipush g0 d_L_areSums_233 (by decide) ?_
            refine V.callVp g0 (MT.ans (q6_count hX (by decide)) sumOf_7) ky_X6_count ki_X6_count ks2_X6_count lk_L_14 hXo rfl rfl (Nat.le_of_ble_eq_true rfl) ⟨Nat.zero_le _, Nat.zero_le _⟩ rfl rfl (Nat.le_of_ble_eq_true rfl) d_L_areSums_235 ?_
            refine V.sameNe g0 d_L_areSums_238 ?_
            have u7 := sumI_ub (f := fun p => visN A.1 p 0) (B := 6) (A.1 619).toNat (fun i hi => visN_b A.1 i 0)
            have u8 := sumI_ub (f := fun p => visN A.1 p 1) (B := 6) (A.1 619).toNat (fun i hi => visN_b A.1 i 1)
            have u87 := sumI_mono (f := fun p => visN A.1 p 1) (h := fun p => visN A.1 p 0) (A.1 619).toNat (fun i hi => visN_le A.1 i)
            have u3 := sumI_ub (f := fun p => A.1 (103 * p + 3)) (B := 60) (A.1 619).toNat (fun i hi => (hO.at (p := (i : Int)) (by omega) (by omega)).crs)
            have uf : 0 ≤ A.1 621 ∧ A.1 621 ≤ 2 * sumI (fun p => A.1 (103 * p + 3)) (A.1 619).toNat := hI.2.2
            have uc1 := closed_popc A.1
            have uc2 := popc_b (A.1 620).toNat 15
            refine V.al0 g0 d_L_areSums_241 ?_
            refine V.bipush g0 d_L_areSums_242 (by decide) ?_
            refine V.callVp g0 (MT.ans (q6_count hX (by decide)) sumOf_8) ky_X6_count ki_X6_count ks2_X6_count lk_L_14 hXo rfl rfl (Nat.le_of_ble_eq_true rfl) ⟨Nat.zero_le _, Nat.zero_le _⟩ rfl rfl (Nat.le_of_ble_eq_true rfl) d_L_areSums_244 ?_
            refine V.il5 g0 d_L_areSums_247 ?_
            refine V.icmpgt g0 d_L_areSums_249 (by omega) (fun c_249 => ?_) (fun c_249 => ?_)
            · skip
              exfalso; omega
            · skip
              refine V.al0 g0 d_L_areSums_252 ?_
              refine V.bipush g0 d_L_areSums_253 (by decide) ?_
              refine V.callVp g0 (MT.ans (q6_count hX (by decide)) cnt9) ky_X6_count ki_X6_count ks2_X6_count lk_L_14 hXo rfl rfl (Nat.le_of_ble_eq_true rfl) ⟨Nat.zero_le _, Nat.zero_le _⟩ rfl rfl (Nat.le_of_ble_eq_true rfl) d_L_areSums_255 ?_
              refine V.iconst g0 d_L_areSums_258 ?_
              refine V.il1 g0 d_L_areSums_259 ?_
              refine V.imul g0 d_L_areSums_260 ?_
              refine V.icmpgt g0 d_L_areSums_261 (by omega) (fun c_261 => ?_) (fun c_261 => ?_)
              · skip
                exfalso; omega
              · skip
                refine V.al0 g0 d_L_areSums_264 ?_
                refine V.iconst g0 d_L_areSums_265 ?_
                refine V.callVp g0 (MT.ans (q6_count hX (by decide)) cnt2) ky_X6_count ki_X6_count ks2_X6_count lk_L_14 hXo rfl rfl (Nat.le_of_ble_eq_true rfl) ⟨Nat.zero_le _, Nat.zero_le _⟩ rfl rfl (Nat.le_of_ble_eq_true rfl) d_L_areSums_266 ?_
                refine V.iflt g0 d_L_areSums_269 (by omega) (fun c_269 => ?_) (fun c_269 => ?_)
                · skip
                  exfalso; omega
                · skip
                  refine V.al0 g0 d_L_areSums_272 ?_
                  refine V.iconst g0 d_L_areSums_273 ?_
                  refine V.callVp g0 (MT.ans (q6_count hX (by decide)) cnt2) ky_X6_count ki_X6_count ks2_X6_count lk_L_14 hXo rfl rfl (Nat.le_of_ble_eq_true rfl) ⟨Nat.zero_le _, Nat.zero_le _⟩ rfl rfl (Nat.le_of_ble_eq_true rfl) d_L_areSums_274 ?_
                  refine V.bipush g0 d_L_areSums_277 (by decide) ?_
                  refine V.icmpge g0 d_L_areSums_279 (by omega) (fun c_279 => ?_) (fun c_279 => ?_)
                  · skip
                    exfalso; omega
                  · skip
                    refine V.iconst g0 d_L_areSums_282 ?_
                    refine V.goto g0 d_L_areSums_283 ?_
                    refine V.zret g d_L_areSums_287 (by first | exact Or.inl rfl | exact Or.inr rfl | exact bI_01 _) (Nat.zero_le _) (Nat.zero_le _) ⟨congrArg (fun z => some (Value.int (iI z))) ?_, rfl, rfl⟩
                    rfl
        · skip
          have hc : 0 ≤ (j : Int) ∧ (j : Int) < 6 := by omega
          have b0 := hldN_b (s := A.1) (c := (j : Int)) (t := 0) (A.1 619).toNat hn6
          have b1 := hldN_b (s := A.1) (c := (j : Int)) (t := 1) (A.1 619).toNat hn6
          have bm := misN_b (s := A.1) (A.1 619).toNat hn6
          refine V.il7 g0 d_L_areSums_103 ?_
          refine V.ifeq g0 d_L_areSums_105 (by omega) (fun c_105 => ?_) (fun c_105 => ?_)
          · skip
            exfalso; omega
          · skip
            refine V.il6 g0 d_L_areSums_108 ?_
            refine V.al0 g0 d_L_areSums_110 ?_
            refine V.il8 g0 d_L_areSums_111 ?_
            refine V.iconst g0 d_L_areSums_113 ?_
            refine V.callVp g0 (MT.ans (c_X6_holders hXo hXn (by constructor <;> omega) (by decide)) (hldq hc)) ky_X6_holders ki_X6_holders ks2_X6_holders lk_L_69 hXo rfl rfl (Nat.le_of_ble_eq_true rfl) ⟨Nat.zero_le _, Nat.zero_le _⟩ rfl rfl (Nat.le_of_ble_eq_true rfl) d_L_areSums_114 ?_
            refine V.iand g0 d_L_areSums_117 (show iI ((herN A.1 j : Nat) : Int) &&& iI ((hldN A.1 (j : Int) 0 (A.1 619).toNat : Nat) : Int) = iI 0 from iI_and.trans (by rw [her_apart]; rfl)) ?_
            refine V.ifne g0 d_L_areSums_118 (by omega) (fun c_118 => ?_) (fun c_118 => ?_)
            · skip
              exfalso; omega
            · skip
              refine V.al0 g0 d_L_areSums_121 ?_
              refine V.il8 g0 d_L_areSums_122 ?_
              refine V.iconst g0 d_L_areSums_124 ?_
              refine V.callVp g0 (MT.ans (c_X6_holders hXo hXn (by constructor <;> omega) (by decide)) (hldq hc)) ky_X6_holders ki_X6_holders ks2_X6_holders lk_L_69 hXo rfl rfl (Nat.le_of_ble_eq_true rfl) ⟨Nat.zero_le _, Nat.zero_le _⟩ rfl rfl (Nat.le_of_ble_eq_true rfl) d_L_areSums_125 ?_
              refine V.al0 g0 d_L_areSums_128 ?_
              refine V.callVp g0 (MT.ans (c_X6_mistold hXo hXn) (show q_mistold A.1 = ((misN A.1 (A.1 619).toNat : Nat) : Int) from rfl)) ky_X6_mistold ki_X6_mistold ks2_X6_mistold lk_L_43 hXo rfl rfl (Nat.le_of_ble_eq_true rfl) ⟨Nat.zero_le _, Nat.zero_le _⟩ rfl rfl (Nat.le_of_ble_eq_true rfl) d_L_areSums_129 ?_
              refine V.iconst g0 d_L_areSums_132 ?_
              refine V.ixor g0 d_L_areSums_133 rfl ?_
              refine V.iand g0 d_L_areSums_134 (not6 _ b1 _ bm) ?_
              refine V.al0 g0 d_L_areSums_135 ?_
              refine V.il8 g0 d_L_areSums_136 ?_
              refine V.iconst g0 d_L_areSums_138 ?_
              refine V.callVp g0 (MT.ans (c_X6_holders hXo hXn (by constructor <;> omega) (by decide)) (hldq hc)) ky_X6_holders ki_X6_holders ks2_X6_holders lk_L_69 hXo rfl rfl (Nat.le_of_ble_eq_true rfl) ⟨Nat.zero_le _, Nat.zero_le _⟩ rfl rfl (Nat.le_of_ble_eq_true rfl) d_L_areSums_139 ?_
              refine V.iconst g0 d_L_areSums_142 ?_
              refine V.ixor g0 d_L_areSums_143 rfl ?_
              refine V.iand g0 d_L_areSums_144 ((not6 _ (Nat.lt_of_le_of_lt Nat.and_le_left b1) _ b0).trans (show _ = iI 0 by rw [told_in hn6]; rfl)) ?_
              refine V.ifne g0 d_L_areSums_145 (by omega) (fun c_145 => ?_) (fun c_145 => ?_)
              · skip
                exfalso; omega
              · skip
                refine V.iconst g0 d_L_areSums_148 ?_
                refine V.goto g0 d_L_areSums_149 ?_
                refine V.is7 g0 d_L_areSums_153 ?_
                refine V.il6 g0 d_L_areSums_155 ?_
                refine V.al0 g0 d_L_areSums_157 ?_
                refine V.il8 g0 d_L_areSums_158 ?_
                refine V.iconst g0 d_L_areSums_160 ?_
                refine V.callVp g0 (MT.ans (c_X6_holders hXo hXn (by constructor <;> omega) (by decide)) (hldq hc)) ky_X6_holders ki_X6_holders ks2_X6_holders lk_L_69 hXo rfl rfl (Nat.le_of_ble_eq_true rfl) ⟨Nat.zero_le _, Nat.zero_le _⟩ rfl rfl (Nat.le_of_ble_eq_true rfl) d_L_areSums_161 ?_
                refine V.ior g0 d_L_areSums_164 iI_or ?_
                refine V.is6 g0 d_L_areSums_165 ?_
                refine V.inc8 g0 d_L_areSums_167 ?_
                refine V.goto g0 d_L_areSums_170 ?_
                exact ih2 (f2 - 1) (by omega) (j + 1) (by omega)
      exact LP2 6 0 (by omega)
    · skip
      have hk : 0 ≤ (i : Int) ∧ (i : Int) < A.1 619 := by omega
      refine V.il1 g0 d_L_areSums_31 ?_
      refine V.al0 g0 d_L_areSums_32 ?_
      refine V.il8 g0 d_L_areSums_33 ?_
      refine V.iconst g0 d_L_areSums_35 ?_
      refine V.callVp g0 (MT.ans (c_X6_passport hXo hXn (by constructor <;> omega) (by decide)) (pas5 hk)) ky_X6_passport ki_X6_passport ks2_X6_passport lk_L_47 hXo rfl rfl (Nat.le_of_ble_eq_true rfl) ⟨Nat.zero_le _, Nat.zero_le _⟩ rfl rfl (Nat.le_of_ble_eq_true rfl) d_L_areSums_36 ?_
      refine V.iadd g0 d_L_areSums_39 ?_
      refine V.is1 g0 d_L_areSums_40 ?_
      refine V.il2 g0 d_L_areSums_41 ?_
      refine V.al0 g0 d_L_areSums_42 ?_
      refine V.il8 g0 d_L_areSums_43 ?_
      refine V.bipush g0 d_L_areSums_45 (by decide) ?_
      refine V.callVp g0 (MT.ans (c_X6_passport hXo hXn (by constructor <;> omega) (by decide)) (pas6 hk)) ky_X6_passport ki_X6_passport ks2_X6_passport lk_L_47 hXo rfl rfl (Nat.le_of_ble_eq_true rfl) ⟨Nat.zero_le _, Nat.zero_le _⟩ rfl rfl (Nat.le_of_ble_eq_true rfl) d_L_areSums_47 ?_
      refine V.iadd g0 d_L_areSums_50 ?_
      refine V.is2 g0 d_L_areSums_51 ?_
      refine V.il3 g0 d_L_areSums_52 ?_
      refine V.al0 g0 d_L_areSums_53 ?_
      refine V.il8 g0 d_L_areSums_54 ?_
      refine V.iconst g0 d_L_areSums_56 ?_
      refine V.callVp g0 (MT.ans (c_X6_passport hXo hXn (by constructor <;> omega) (by decide)) (pas3 hk)) ky_X6_passport ki_X6_passport ks2_X6_passport lk_L_47 hXo rfl rfl (Nat.le_of_ble_eq_true rfl) ⟨Nat.zero_le _, Nat.zero_le _⟩ rfl rfl (Nat.le_of_ble_eq_true rfl) d_L_areSums_57 ?_
      refine V.iadd g0 d_L_areSums_60 ?_
      refine V.is3 g0 d_L_areSums_61 ?_
      refine V.il4 g0 d_L_areSums_62 ?_
      refine V.al0 g0 d_L_areSums_64 ?_
      refine V.il8 g0 d_L_areSums_65 ?_
      refine V.iconst g0 d_L_areSums_67 ?_
      refine V.callVp g0 (MT.ans (c_X6_passport hXo hXn (by constructor <;> omega) (by decide)) (pas4 hk)) ky_X6_passport ki_X6_passport ks2_X6_passport lk_L_47 hXo rfl rfl (Nat.le_of_ble_eq_true rfl) ⟨Nat.zero_le _, Nat.zero_le _⟩ rfl rfl (Nat.le_of_ble_eq_true rfl) d_L_areSums_68 ?_
      refine V.iadd g0 d_L_areSums_71 ?_
      refine V.is4 g0 d_L_areSums_72 ?_
      refine V.il5 g0 d_L_areSums_74 ?_
      refine V.al0 g0 d_L_areSums_76 ?_
      refine V.il8 g0 d_L_areSums_77 ?_
      refine V.bipush g0 d_L_areSums_79 (by decide) ?_
      refine V.callVp g0 (MT.ans (c_X6_passport hXo hXn (by constructor <;> omega) (by decide)) (pas8 hk)) ky_X6_passport ki_X6_passport ks2_X6_passport lk_L_47 hXo rfl rfl (Nat.le_of_ble_eq_true rfl) ⟨Nat.zero_le _, Nat.zero_le _⟩ rfl rfl (Nat.le_of_ble_eq_true rfl) d_L_areSums_81 ?_
      refine V.iadd g0 d_L_areSums_84 ?_
      refine V.is5 g0 d_L_areSums_85 ?_
      refine V.inc8 g0 d_L_areSums_87 ?_
      refine V.goto g0 d_L_areSums_90 ?_
      exact ih1 (f1 - 1) (by omega) (i + 1) (by omega)
  exact LP1 (A.1 619).toNat 0 (by omega)
