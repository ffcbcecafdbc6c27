theorem d_L_law_0 : Dc code 0 3 3 (.new 7) := ⟨by decide +kernel, rfl⟩
theorem d_L_law_3 : Dc code 3 1 4 .dup := ⟨by decide +kernel, rfl⟩
theorem d_L_law_4 : Dc code 4 3 7 (.invokespecial 9) := ⟨by decide +kernel, rfl⟩
theorem d_L_law_7 : Dc code 7 1 8 (.astore_n 1) := ⟨by decide +kernel, rfl⟩
theorem d_L_law_8 : Dc code 8 3 11 (.new 10) := ⟨by decide +kernel, rfl⟩
theorem d_L_law_11 : Dc code 11 1 12 .dup := ⟨by decide +kernel, rfl⟩
theorem d_L_law_12 : Dc code 12 3 15 (.invokespecial 12) := ⟨by decide +kernel, rfl⟩
theorem d_L_law_15 : Dc code 15 1 16 (.astore_n 2) := ⟨by decide +kernel, rfl⟩
theorem d_L_law_16 : Dc code 16 1 17 (.iconst 0) := ⟨by decide +kernel, rfl⟩
theorem d_L_law_17 : Dc code 17 1 18 (.istore_n 3) := ⟨by decide +kernel, rfl⟩
theorem d_L_law_18 : Dc code 18 1 19 (.iload_n 3) := ⟨by decide +kernel, rfl⟩
theorem d_L_law_19 : Dc code 19 1 20 (.aload_n 0) := ⟨by decide +kernel, rfl⟩
theorem d_L_law_20 : Dc code 20 1 21 .arraylength := ⟨by decide +kernel, rfl⟩
theorem d_L_law_21 : Dc code 21 2 23 (.bipush 6) := ⟨by decide +kernel, rfl⟩
theorem d_L_law_23 : Dc code 23 1 24 .isub := ⟨by decide +kernel, rfl⟩
theorem d_L_law_24 : Dj code 24 27 886 (.if_icmp .gt) := ⟨862, by decide +kernel, rfl, by decide⟩
theorem d_L_law_27 : Dc code 27 1 28 (.aload_n 0) := ⟨by decide +kernel, rfl⟩
theorem d_L_law_28 : Dc code 28 1 29 (.iload_n 3) := ⟨by decide +kernel, rfl⟩
theorem d_L_law_29 : Dc code 29 1 30 .iaload := ⟨by decide +kernel, rfl⟩
theorem d_L_law_30 : Dc code 30 2 32 (.bipush 31) := ⟨by decide +kernel, rfl⟩
theorem d_L_law_32 : Dc code 32 1 33 .iand := ⟨by decide +kernel, rfl⟩
theorem d_L_law_33 : decode code 33 = .ok (.tableswitch 847 0 23 #[111, 134, 157, 220, 253, 286, 329, 352, 377, 390, 403, 426, 439, 452, 465, 498, 541, 584, 617, 696, 729, 762, 775, 824], 111) := by decide +kernel
theorem d_L_law_144 : Dc code 144 1 145 (.aload_n 1) := ⟨by decide +kernel, rfl⟩
theorem d_L_law_145 : Dc code 145 1 146 (.aload_n 0) := ⟨by decide +kernel, rfl⟩
theorem d_L_law_146 : Dc code 146 1 147 (.iload_n 3) := ⟨by decide +kernel, rfl⟩
theorem d_L_law_147 : Dc code 147 1 148 (.iconst 1) := ⟨by decide +kernel, rfl⟩
theorem d_L_law_148 : Dc code 148 1 149 .iadd := ⟨by decide +kernel, rfl⟩
theorem d_L_law_149 : Dc code 149 1 150 .iaload := ⟨by decide +kernel, rfl⟩
theorem d_L_law_150 : Dc code 150 3 153 (.invokevirtual 13) := ⟨by decide +kernel, rfl⟩
theorem d_L_law_153 : Dc code 153 1 154 (.aload_n 2) := ⟨by decide +kernel, rfl⟩
theorem d_L_law_154 : Dc code 154 1 155 (.aload_n 0) := ⟨by decide +kernel, rfl⟩
theorem d_L_law_155 : Dc code 155 1 156 (.iload_n 3) := ⟨by decide +kernel, rfl⟩
theorem d_L_law_156 : Dc code 156 1 157 (.iconst 1) := ⟨by decide +kernel, rfl⟩
theorem d_L_law_157 : Dc code 157 1 158 .iadd := ⟨by decide +kernel, rfl⟩
theorem d_L_law_158 : Dc code 158 1 159 .iaload := ⟨by decide +kernel, rfl⟩
theorem d_L_law_159 : Dc code 159 3 162 (.invokevirtual 17) := ⟨by decide +kernel, rfl⟩
theorem d_L_law_162 : Dj code 162 165 880 (.if_icmp .eq) := ⟨718, by decide +kernel, rfl, by decide⟩
theorem d_L_law_165 : Dc code 165 1 166 (.iconst 0) := ⟨by decide +kernel, rfl⟩
theorem d_L_law_166 : decode code 166 = .ok (.ireturn, 1) := by decide +kernel
theorem d_L_law_167 : Dc code 167 1 168 (.aload_n 1) := ⟨by decide +kernel, rfl⟩
theorem d_L_law_168 : Dc code 168 1 169 (.aload_n 0) := ⟨by decide +kernel, rfl⟩
theorem d_L_law_169 : Dc code 169 1 170 (.iload_n 3) := ⟨by decide +kernel, rfl⟩
theorem d_L_law_170 : Dc code 170 1 171 (.iconst 1) := ⟨by decide +kernel, rfl⟩
theorem d_L_law_171 : Dc code 171 1 172 .iadd := ⟨by decide +kernel, rfl⟩
theorem d_L_law_172 : Dc code 172 1 173 .iaload := ⟨by decide +kernel, rfl⟩
theorem d_L_law_173 : Dc code 173 3 176 (.invokevirtual 18) := ⟨by decide +kernel, rfl⟩
theorem d_L_law_176 : Dc code 176 1 177 (.aload_n 2) := ⟨by decide +kernel, rfl⟩
theorem d_L_law_177 : Dc code 177 1 178 (.aload_n 0) := ⟨by decide +kernel, rfl⟩
theorem d_L_law_178 : Dc code 178 1 179 (.iload_n 3) := ⟨by decide +kernel, rfl⟩
theorem d_L_law_179 : Dc code 179 1 180 (.iconst 1) := ⟨by decide +kernel, rfl⟩
theorem d_L_law_180 : Dc code 180 1 181 .iadd := ⟨by decide +kernel, rfl⟩
theorem d_L_law_181 : Dc code 181 1 182 .iaload := ⟨by decide +kernel, rfl⟩
theorem d_L_law_182 : Dc code 182 3 185 (.invokevirtual 21) := ⟨by decide +kernel, rfl⟩
theorem d_L_law_185 : Dj code 185 188 880 (.if_icmp .eq) := ⟨695, by decide +kernel, rfl, by decide⟩
theorem d_L_law_188 : Dc code 188 1 189 (.iconst 0) := ⟨by decide +kernel, rfl⟩
theorem d_L_law_189 : decode code 189 = .ok (.ireturn, 1) := by decide +kernel
theorem d_L_law_190 : Dc code 190 1 191 (.aload_n 1) := ⟨by decide +kernel, rfl⟩
theorem d_L_law_191 : Dc code 191 1 192 (.aload_n 0) := ⟨by decide +kernel, rfl⟩
theorem d_L_law_192 : Dc code 192 1 193 (.iload_n 3) := ⟨by decide +kernel, rfl⟩
theorem d_L_law_193 : Dc code 193 1 194 (.iconst 1) := ⟨by decide +kernel, rfl⟩
theorem d_L_law_194 : Dc code 194 1 195 .iadd := ⟨by decide +kernel, rfl⟩
theorem d_L_law_195 : Dc code 195 1 196 .iaload := ⟨by decide +kernel, rfl⟩
theorem d_L_law_196 : Dc code 196 1 197 (.aload_n 0) := ⟨by decide +kernel, rfl⟩
theorem d_L_law_197 : Dc code 197 1 198 (.iload_n 3) := ⟨by decide +kernel, rfl⟩
theorem d_L_law_198 : Dc code 198 1 199 (.iconst 2) := ⟨by decide +kernel, rfl⟩
theorem d_L_law_199 : Dc code 199 1 200 .iadd := ⟨by decide +kernel, rfl⟩
theorem d_L_law_200 : Dc code 200 1 201 .iaload := ⟨by decide +kernel, rfl⟩
theorem d_L_law_201 : Dc code 201 1 202 (.aload_n 0) := ⟨by decide +kernel, rfl⟩
theorem d_L_law_202 : Dc code 202 1 203 (.iload_n 3) := ⟨by decide +kernel, rfl⟩
theorem d_L_law_203 : Dc code 203 1 204 (.iconst 3) := ⟨by decide +kernel, rfl⟩
theorem d_L_law_204 : Dc code 204 1 205 .iadd := ⟨by decide +kernel, rfl⟩
theorem d_L_law_205 : Dc code 205 1 206 .iaload := ⟨by decide +kernel, rfl⟩
theorem d_L_law_206 : Dc code 206 1 207 (.aload_n 0) := ⟨by decide +kernel, rfl⟩
theorem d_L_law_207 : Dc code 207 1 208 (.iload_n 3) := ⟨by decide +kernel, rfl⟩
theorem d_L_law_208 : Dc code 208 1 209 (.iconst 4) := ⟨by decide +kernel, rfl⟩
theorem d_L_law_209 : Dc code 209 1 210 .iadd := ⟨by decide +kernel, rfl⟩
theorem d_L_law_210 : Dc code 210 1 211 .iaload := ⟨by decide +kernel, rfl⟩
theorem d_L_law_211 : Dc code 211 1 212 (.aload_n 0) := ⟨by decide +kernel, rfl⟩
theorem d_L_law_212 : Dc code 212 1 213 (.iload_n 3) := ⟨by decide +kernel, rfl⟩
theorem d_L_law_213 : Dc code 213 1 214 (.iconst 5) := ⟨by decide +kernel, rfl⟩
theorem d_L_law_214 : Dc code 214 1 215 .iadd := ⟨by decide +kernel, rfl⟩
theorem d_L_law_215 : Dc code 215 1 216 .iaload := ⟨by decide +kernel, rfl⟩
theorem d_L_law_216 : Dc code 216 3 219 (.invokevirtual 22) := ⟨by decide +kernel, rfl⟩
theorem d_L_law_219 : Dc code 219 1 220 (.aload_n 2) := ⟨by decide +kernel, rfl⟩
theorem d_L_law_220 : Dc code 220 1 221 (.aload_n 0) := ⟨by decide +kernel, rfl⟩
theorem d_L_law_221 : Dc code 221 1 222 (.iload_n 3) := ⟨by decide +kernel, rfl⟩
theorem d_L_law_222 : Dc code 222 1 223 (.iconst 1) := ⟨by decide +kernel, rfl⟩
theorem d_L_law_223 : Dc code 223 1 224 .iadd := ⟨by decide +kernel, rfl⟩
theorem d_L_law_224 : Dc code 224 1 225 .iaload := ⟨by decide +kernel, rfl⟩
theorem d_L_law_225 : Dc code 225 1 226 (.aload_n 0) := ⟨by decide +kernel, rfl⟩
theorem d_L_law_226 : Dc code 226 1 227 (.iload_n 3) := ⟨by decide +kernel, rfl⟩
theorem d_L_law_227 : Dc code 227 1 228 (.iconst 2) := ⟨by decide +kernel, rfl⟩
theorem d_L_law_228 : Dc code 228 1 229 .iadd := ⟨by decide +kernel, rfl⟩
theorem d_L_law_229 : Dc code 229 1 230 .iaload := ⟨by decide +kernel, rfl⟩
theorem d_L_law_230 : Dc code 230 1 231 (.aload_n 0) := ⟨by decide +kernel, rfl⟩
theorem d_L_law_231 : Dc code 231 1 232 (.iload_n 3) := ⟨by decide +kernel, rfl⟩
theorem d_L_law_232 : Dc code 232 1 233 (.iconst 3) := ⟨by decide +kernel, rfl⟩
theorem d_L_law_233 : Dc code 233 1 234 .iadd := ⟨by decide +kernel, rfl⟩
theorem d_L_law_234 : Dc code 234 1 235 .iaload := ⟨by decide +kernel, rfl⟩
theorem d_L_law_235 : Dc code 235 1 236 (.aload_n 0) := ⟨by decide +kernel, rfl⟩
theorem d_L_law_236 : Dc code 236 1 237 (.iload_n 3) := ⟨by decide +kernel, rfl⟩
theorem d_L_law_237 : Dc code 237 1 238 (.iconst 4) := ⟨by decide +kernel, rfl⟩
theorem d_L_law_238 : Dc code 238 1 239 .iadd := ⟨by decide +kernel, rfl⟩
theorem d_L_law_239 : Dc code 239 1 240 .iaload := ⟨by decide +kernel, rfl⟩
theorem d_L_law_240 : Dc code 240 1 241 (.aload_n 0) := ⟨by decide +kernel, rfl⟩
theorem d_L_law_241 : Dc code 241 1 242 (.iload_n 3) := ⟨by decide +kernel, rfl⟩
theorem d_L_law_242 : Dc code 242 1 243 (.iconst 5) := ⟨by decide +kernel, rfl⟩
theorem d_L_law_243 : Dc code 243 1 244 .iadd := ⟨by decide +kernel, rfl⟩
theorem d_L_law_244 : Dc code 244 1 245 .iaload := ⟨by decide +kernel, rfl⟩
theorem d_L_law_245 : Dc code 245 3 248 (.invokevirtual 26) := ⟨by decide +kernel, rfl⟩
theorem d_L_law_248 : Dj code 248 251 880 (.if_icmp .eq) := ⟨632, by decide +kernel, rfl, by decide⟩
theorem d_L_law_251 : Dc code 251 1 252 (.iconst 0) := ⟨by decide +kernel, rfl⟩
theorem d_L_law_252 : decode code 252 = .ok (.ireturn, 1) := by decide +kernel
theorem d_L_law_253 : Dc code 253 1 254 (.aload_n 1) := ⟨by decide +kernel, rfl⟩
theorem d_L_law_254 : Dc code 254 1 255 (.aload_n 0) := ⟨by decide +kernel, rfl⟩
theorem d_L_law_255 : Dc code 255 1 256 (.iload_n 3) := ⟨by decide +kernel, rfl⟩
theorem d_L_law_256 : Dc code 256 1 257 (.iconst 1) := ⟨by decide +kernel, rfl⟩
theorem d_L_law_257 : Dc code 257 1 258 .iadd := ⟨by decide +kernel, rfl⟩
theorem d_L_law_258 : Dc code 258 1 259 .iaload := ⟨by decide +kernel, rfl⟩
theorem d_L_law_259 : Dc code 259 1 260 (.aload_n 0) := ⟨by decide +kernel, rfl⟩
theorem d_L_law_260 : Dc code 260 1 261 (.iload_n 3) := ⟨by decide +kernel, rfl⟩
theorem d_L_law_261 : Dc code 261 1 262 (.iconst 2) := ⟨by decide +kernel, rfl⟩
theorem d_L_law_262 : Dc code 262 1 263 .iadd := ⟨by decide +kernel, rfl⟩
theorem d_L_law_263 : Dc code 263 1 264 .iaload := ⟨by decide +kernel, rfl⟩
theorem d_L_law_264 : Dc code 264 3 267 (.invokevirtual 27) := ⟨by decide +kernel, rfl⟩
theorem d_L_law_267 : Dc code 267 1 268 (.aload_n 2) := ⟨by decide +kernel, rfl⟩
theorem d_L_law_268 : Dc code 268 1 269 (.aload_n 0) := ⟨by decide +kernel, rfl⟩
theorem d_L_law_269 : Dc code 269 1 270 (.iload_n 3) := ⟨by decide +kernel, rfl⟩
theorem d_L_law_270 : Dc code 270 1 271 (.iconst 1) := ⟨by decide +kernel, rfl⟩
theorem d_L_law_271 : Dc code 271 1 272 .iadd := ⟨by decide +kernel, rfl⟩
theorem d_L_law_272 : Dc code 272 1 273 .iaload := ⟨by decide +kernel, rfl⟩
theorem d_L_law_273 : Dc code 273 1 274 (.aload_n 0) := ⟨by decide +kernel, rfl⟩
theorem d_L_law_274 : Dc code 274 1 275 (.iload_n 3) := ⟨by decide +kernel, rfl⟩
theorem d_L_law_275 : Dc code 275 1 276 (.iconst 2) := ⟨by decide +kernel, rfl⟩
theorem d_L_law_276 : Dc code 276 1 277 .iadd := ⟨by decide +kernel, rfl⟩
theorem d_L_law_277 : Dc code 277 1 278 .iaload := ⟨by decide +kernel, rfl⟩
theorem d_L_law_278 : Dc code 278 3 281 (.invokevirtual 31) := ⟨by decide +kernel, rfl⟩
theorem d_L_law_281 : Dj code 281 284 880 (.if_icmp .eq) := ⟨599, by decide +kernel, rfl, by decide⟩
theorem d_L_law_284 : Dc code 284 1 285 (.iconst 0) := ⟨by decide +kernel, rfl⟩
theorem d_L_law_285 : decode code 285 = .ok (.ireturn, 1) := by decide +kernel
theorem d_L_law_286 : Dc code 286 1 287 (.aload_n 1) := ⟨by decide +kernel, rfl⟩
theorem d_L_law_287 : Dc code 287 1 288 (.aload_n 0) := ⟨by decide +kernel, rfl⟩
theorem d_L_law_288 : Dc code 288 1 289 (.iload_n 3) := ⟨by decide +kernel, rfl⟩
theorem d_L_law_289 : Dc code 289 1 290 (.iconst 1) := ⟨by decide +kernel, rfl⟩
theorem d_L_law_290 : Dc code 290 1 291 .iadd := ⟨by decide +kernel, rfl⟩
theorem d_L_law_291 : Dc code 291 1 292 .iaload := ⟨by decide +kernel, rfl⟩
theorem d_L_law_292 : Dc code 292 1 293 (.aload_n 0) := ⟨by decide +kernel, rfl⟩
theorem d_L_law_293 : Dc code 293 1 294 (.iload_n 3) := ⟨by decide +kernel, rfl⟩
theorem d_L_law_294 : Dc code 294 1 295 (.iconst 2) := ⟨by decide +kernel, rfl⟩
theorem d_L_law_295 : Dc code 295 1 296 .iadd := ⟨by decide +kernel, rfl⟩
theorem d_L_law_296 : Dc code 296 1 297 .iaload := ⟨by decide +kernel, rfl⟩
theorem d_L_law_297 : Dc code 297 3 300 (.invokevirtual 32) := ⟨by decide +kernel, rfl⟩
theorem d_L_law_300 : Dc code 300 1 301 (.aload_n 2) := ⟨by decide +kernel, rfl⟩
theorem d_L_law_301 : Dc code 301 1 302 (.aload_n 0) := ⟨by decide +kernel, rfl⟩
theorem d_L_law_302 : Dc code 302 1 303 (.iload_n 3) := ⟨by decide +kernel, rfl⟩
theorem d_L_law_303 : Dc code 303 1 304 (.iconst 1) := ⟨by decide +kernel, rfl⟩
theorem d_L_law_304 : Dc code 304 1 305 .iadd := ⟨by decide +kernel, rfl⟩
theorem d_L_law_305 : Dc code 305 1 306 .iaload := ⟨by decide +kernel, rfl⟩
theorem d_L_law_306 : Dc code 306 1 307 (.aload_n 0) := ⟨by decide +kernel, rfl⟩
theorem d_L_law_307 : Dc code 307 1 308 (.iload_n 3) := ⟨by decide +kernel, rfl⟩
theorem d_L_law_308 : Dc code 308 1 309 (.iconst 2) := ⟨by decide +kernel, rfl⟩
theorem d_L_law_309 : Dc code 309 1 310 .iadd := ⟨by decide +kernel, rfl⟩
theorem d_L_law_310 : Dc code 310 1 311 .iaload := ⟨by decide +kernel, rfl⟩
theorem d_L_law_311 : Dc code 311 3 314 (.invokevirtual 35) := ⟨by decide +kernel, rfl⟩
theorem d_L_law_314 : Dj code 314 317 880 (.if_icmp .eq) := ⟨566, by decide +kernel, rfl, by decide⟩
theorem d_L_law_317 : Dc code 317 1 318 (.iconst 0) := ⟨by decide +kernel, rfl⟩
theorem d_L_law_318 : decode code 318 = .ok (.ireturn, 1) := by decide +kernel
theorem d_L_law_319 : Dc code 319 1 320 (.aload_n 1) := ⟨by decide +kernel, rfl⟩
theorem d_L_law_320 : Dc code 320 1 321 (.aload_n 0) := ⟨by decide +kernel, rfl⟩
theorem d_L_law_321 : Dc code 321 1 322 (.iload_n 3) := ⟨by decide +kernel, rfl⟩
theorem d_L_law_322 : Dc code 322 1 323 (.iconst 1) := ⟨by decide +kernel, rfl⟩
theorem d_L_law_323 : Dc code 323 1 324 .iadd := ⟨by decide +kernel, rfl⟩
theorem d_L_law_324 : Dc code 324 1 325 .iaload := ⟨by decide +kernel, rfl⟩
theorem d_L_law_325 : Dc code 325 1 326 (.aload_n 0) := ⟨by decide +kernel, rfl⟩
theorem d_L_law_326 : Dc code 326 1 327 (.iload_n 3) := ⟨by decide +kernel, rfl⟩
theorem d_L_law_327 : Dc code 327 1 328 (.iconst 2) := ⟨by decide +kernel, rfl⟩
theorem d_L_law_328 : Dc code 328 1 329 .iadd := ⟨by decide +kernel, rfl⟩
theorem d_L_law_329 : Dc code 329 1 330 .iaload := ⟨by decide +kernel, rfl⟩
theorem d_L_law_330 : Dc code 330 1 331 (.aload_n 0) := ⟨by decide +kernel, rfl⟩
theorem d_L_law_331 : Dc code 331 1 332 (.iload_n 3) := ⟨by decide +kernel, rfl⟩
theorem d_L_law_332 : Dc code 332 1 333 (.iconst 3) := ⟨by decide +kernel, rfl⟩
theorem d_L_law_333 : Dc code 333 1 334 .iadd := ⟨by decide +kernel, rfl⟩
theorem d_L_law_334 : Dc code 334 1 335 .iaload := ⟨by decide +kernel, rfl⟩
theorem d_L_law_335 : Dc code 335 3 338 (.invokevirtual 36) := ⟨by decide +kernel, rfl⟩
theorem d_L_law_338 : Dc code 338 1 339 (.aload_n 2) := ⟨by decide +kernel, rfl⟩
theorem d_L_law_339 : Dc code 339 1 340 (.aload_n 0) := ⟨by decide +kernel, rfl⟩
theorem d_L_law_340 : Dc code 340 1 341 (.iload_n 3) := ⟨by decide +kernel, rfl⟩
theorem d_L_law_341 : Dc code 341 1 342 (.iconst 1) := ⟨by decide +kernel, rfl⟩
theorem d_L_law_342 : Dc code 342 1 343 .iadd := ⟨by decide +kernel, rfl⟩
theorem d_L_law_343 : Dc code 343 1 344 .iaload := ⟨by decide +kernel, rfl⟩
theorem d_L_law_344 : Dc code 344 1 345 (.aload_n 0) := ⟨by decide +kernel, rfl⟩
theorem d_L_law_345 : Dc code 345 1 346 (.iload_n 3) := ⟨by decide +kernel, rfl⟩
theorem d_L_law_346 : Dc code 346 1 347 (.iconst 2) := ⟨by decide +kernel, rfl⟩
theorem d_L_law_347 : Dc code 347 1 348 .iadd := ⟨by decide +kernel, rfl⟩
theorem d_L_law_348 : Dc code 348 1 349 .iaload := ⟨by decide +kernel, rfl⟩
theorem d_L_law_349 : Dc code 349 1 350 (.aload_n 0) := ⟨by decide +kernel, rfl⟩
theorem d_L_law_350 : Dc code 350 1 351 (.iload_n 3) := ⟨by decide +kernel, rfl⟩
theorem d_L_law_351 : Dc code 351 1 352 (.iconst 3) := ⟨by decide +kernel, rfl⟩
theorem d_L_law_352 : Dc code 352 1 353 .iadd := ⟨by decide +kernel, rfl⟩
theorem d_L_law_353 : Dc code 353 1 354 .iaload := ⟨by decide +kernel, rfl⟩
theorem d_L_law_354 : Dc code 354 3 357 (.invokevirtual 40) := ⟨by decide +kernel, rfl⟩
theorem d_L_law_357 : Dj code 357 360 880 (.if_icmp .eq) := ⟨523, by decide +kernel, rfl, by decide⟩
theorem d_L_law_360 : Dc code 360 1 361 (.iconst 0) := ⟨by decide +kernel, rfl⟩
theorem d_L_law_361 : decode code 361 = .ok (.ireturn, 1) := by decide +kernel
theorem d_L_law_362 : Dc code 362 1 363 (.aload_n 1) := ⟨by decide +kernel, rfl⟩
theorem d_L_law_363 : Dc code 363 1 364 (.aload_n 0) := ⟨by decide +kernel, rfl⟩
theorem d_L_law_364 : Dc code 364 1 365 (.iload_n 3) := ⟨by decide +kernel, rfl⟩
theorem d_L_law_365 : Dc code 365 1 366 (.iconst 1) := ⟨by decide +kernel, rfl⟩
theorem d_L_law_366 : Dc code 366 1 367 .iadd := ⟨by decide +kernel, rfl⟩
theorem d_L_law_367 : Dc code 367 1 368 .iaload := ⟨by decide +kernel, rfl⟩
theorem d_L_law_368 : Dc code 368 3 371 (.invokevirtual 41) := ⟨by decide +kernel, rfl⟩
theorem d_L_law_371 : Dc code 371 1 372 (.aload_n 2) := ⟨by decide +kernel, rfl⟩
theorem d_L_law_372 : Dc code 372 1 373 (.aload_n 0) := ⟨by decide +kernel, rfl⟩
theorem d_L_law_373 : Dc code 373 1 374 (.iload_n 3) := ⟨by decide +kernel, rfl⟩
theorem d_L_law_374 : Dc code 374 1 375 (.iconst 1) := ⟨by decide +kernel, rfl⟩
theorem d_L_law_375 : Dc code 375 1 376 .iadd := ⟨by decide +kernel, rfl⟩
theorem d_L_law_376 : Dc code 376 1 377 .iaload := ⟨by decide +kernel, rfl⟩
theorem d_L_law_377 : Dc code 377 3 380 (.invokevirtual 44) := ⟨by decide +kernel, rfl⟩
theorem d_L_law_380 : Dj code 380 383 880 (.if_icmp .eq) := ⟨500, by decide +kernel, rfl, by decide⟩
theorem d_L_law_383 : Dc code 383 1 384 (.iconst 0) := ⟨by decide +kernel, rfl⟩
theorem d_L_law_384 : decode code 384 = .ok (.ireturn, 1) := by decide +kernel
theorem d_L_law_385 : Dc code 385 1 386 (.aload_n 1) := ⟨by decide +kernel, rfl⟩
theorem d_L_law_386 : Dc code 386 1 387 (.aload_n 0) := ⟨by decide +kernel, rfl⟩
theorem d_L_law_387 : Dc code 387 1 388 (.iload_n 3) := ⟨by decide +kernel, rfl⟩
theorem d_L_law_388 : Dc code 388 1 389 (.iconst 1) := ⟨by decide +kernel, rfl⟩
theorem d_L_law_389 : Dc code 389 1 390 .iadd := ⟨by decide +kernel, rfl⟩
theorem d_L_law_390 : Dc code 390 1 391 .iaload := ⟨by decide +kernel, rfl⟩
theorem d_L_law_391 : Dc code 391 1 392 .i2c := ⟨by decide +kernel, rfl⟩
theorem d_L_law_392 : Dc code 392 3 395 (.invokevirtual 45) := ⟨by decide +kernel, rfl⟩
theorem d_L_law_395 : Dc code 395 1 396 (.aload_n 2) := ⟨by decide +kernel, rfl⟩
theorem d_L_law_396 : Dc code 396 1 397 (.aload_n 0) := ⟨by decide +kernel, rfl⟩
theorem d_L_law_397 : Dc code 397 1 398 (.iload_n 3) := ⟨by decide +kernel, rfl⟩
theorem d_L_law_398 : Dc code 398 1 399 (.iconst 1) := ⟨by decide +kernel, rfl⟩
theorem d_L_law_399 : Dc code 399 1 400 .iadd := ⟨by decide +kernel, rfl⟩
theorem d_L_law_400 : Dc code 400 1 401 .iaload := ⟨by decide +kernel, rfl⟩
theorem d_L_law_401 : Dc code 401 1 402 .i2c := ⟨by decide +kernel, rfl⟩
theorem d_L_law_402 : Dc code 402 3 405 (.invokevirtual 49) := ⟨by decide +kernel, rfl⟩
theorem d_L_law_405 : Dj code 405 408 880 (.if_icmp .eq) := ⟨475, by decide +kernel, rfl, by decide⟩
theorem d_L_law_408 : Dc code 408 1 409 (.iconst 0) := ⟨by decide +kernel, rfl⟩
theorem d_L_law_409 : decode code 409 = .ok (.ireturn, 1) := by decide +kernel
theorem d_L_law_410 : Dc code 410 1 411 (.aload_n 1) := ⟨by decide +kernel, rfl⟩
theorem d_L_law_411 : Dc code 411 3 414 (.invokevirtual 50) := ⟨by decide +kernel, rfl⟩
theorem d_L_law_414 : Dc code 414 1 415 (.aload_n 2) := ⟨by decide +kernel, rfl⟩
theorem d_L_law_415 : Dc code 415 3 418 (.invokevirtual 54) := ⟨by decide +kernel, rfl⟩
theorem d_L_law_418 : Dj code 418 421 880 (.if_icmp .eq) := ⟨462, by decide +kernel, rfl, by decide⟩
theorem d_L_law_421 : Dc code 421 1 422 (.iconst 0) := ⟨by decide +kernel, rfl⟩
theorem d_L_law_422 : decode code 422 = .ok (.ireturn, 1) := by decide +kernel
theorem d_L_law_423 : Dc code 423 1 424 (.aload_n 1) := ⟨by decide +kernel, rfl⟩
theorem d_L_law_424 : Dc code 424 3 427 (.invokevirtual 55) := ⟨by decide +kernel, rfl⟩
theorem d_L_law_427 : Dc code 427 1 428 (.aload_n 2) := ⟨by decide +kernel, rfl⟩
theorem d_L_law_428 : Dc code 428 3 431 (.invokevirtual 58) := ⟨by decide +kernel, rfl⟩
theorem d_L_law_431 : Dj code 431 434 880 (.if_icmp .eq) := ⟨449, by decide +kernel, rfl, by decide⟩
theorem d_L_law_434 : Dc code 434 1 435 (.iconst 0) := ⟨by decide +kernel, rfl⟩
theorem d_L_law_435 : decode code 435 = .ok (.ireturn, 1) := by decide +kernel
theorem d_L_law_436 : Dc code 436 1 437 (.aload_n 1) := ⟨by decide +kernel, rfl⟩
theorem d_L_law_437 : Dc code 437 1 438 (.aload_n 0) := ⟨by decide +kernel, rfl⟩
theorem d_L_law_438 : Dc code 438 1 439 (.iload_n 3) := ⟨by decide +kernel, rfl⟩
theorem d_L_law_439 : Dc code 439 1 440 (.iconst 1) := ⟨by decide +kernel, rfl⟩
theorem d_L_law_440 : Dc code 440 1 441 .iadd := ⟨by decide +kernel, rfl⟩
theorem d_L_law_441 : Dc code 441 1 442 .iaload := ⟨by decide +kernel, rfl⟩
theorem d_L_law_442 : Dc code 442 3 445 (.invokevirtual 59) := ⟨by decide +kernel, rfl⟩
theorem d_L_law_445 : Dc code 445 1 446 (.aload_n 2) := ⟨by decide +kernel, rfl⟩
theorem d_L_law_446 : Dc code 446 1 447 (.aload_n 0) := ⟨by decide +kernel, rfl⟩
theorem d_L_law_447 : Dc code 447 1 448 (.iload_n 3) := ⟨by decide +kernel, rfl⟩
theorem d_L_law_448 : Dc code 448 1 449 (.iconst 1) := ⟨by decide +kernel, rfl⟩
theorem d_L_law_449 : Dc code 449 1 450 .iadd := ⟨by decide +kernel, rfl⟩
theorem d_L_law_450 : Dc code 450 1 451 .iaload := ⟨by decide +kernel, rfl⟩
theorem d_L_law_451 : Dc code 451 3 454 (.invokevirtual 62) := ⟨by decide +kernel, rfl⟩
theorem d_L_law_454 : Dj code 454 457 880 (.if_icmp .eq) := ⟨426, by decide +kernel, rfl, by decide⟩
theorem d_L_law_457 : Dc code 457 1 458 (.iconst 0) := ⟨by decide +kernel, rfl⟩
theorem d_L_law_458 : decode code 458 = .ok (.ireturn, 1) := by decide +kernel
theorem d_L_law_459 : Dc code 459 1 460 (.aload_n 1) := ⟨by decide +kernel, rfl⟩
theorem d_L_law_460 : Dc code 460 3 463 (.invokevirtual 63) := ⟨by decide +kernel, rfl⟩
theorem d_L_law_463 : Dc code 463 1 464 (.aload_n 2) := ⟨by decide +kernel, rfl⟩
theorem d_L_law_464 : Dc code 464 3 467 (.invokevirtual 66) := ⟨by decide +kernel, rfl⟩
theorem d_L_law_467 : Dj code 467 470 880 (.if_icmp .eq) := ⟨413, by decide +kernel, rfl, by decide⟩
theorem d_L_law_470 : Dc code 470 1 471 (.iconst 0) := ⟨by decide +kernel, rfl⟩
theorem d_L_law_471 : decode code 471 = .ok (.ireturn, 1) := by decide +kernel
theorem d_L_law_472 : Dc code 472 1 473 (.aload_n 1) := ⟨by decide +kernel, rfl⟩
theorem d_L_law_473 : Dc code 473 3 476 (.invokevirtual 67) := ⟨by decide +kernel, rfl⟩
theorem d_L_law_476 : Dc code 476 1 477 (.aload_n 2) := ⟨by decide +kernel, rfl⟩
theorem d_L_law_477 : Dc code 477 3 480 (.invokevirtual 70) := ⟨by decide +kernel, rfl⟩
theorem d_L_law_480 : Dj code 480 483 880 (.if_icmp .eq) := ⟨400, by decide +kernel, rfl, by decide⟩
theorem d_L_law_483 : Dc code 483 1 484 (.iconst 0) := ⟨by decide +kernel, rfl⟩
theorem d_L_law_484 : decode code 484 = .ok (.ireturn, 1) := by decide +kernel
theorem d_L_law_485 : Dc code 485 1 486 (.aload_n 1) := ⟨by decide +kernel, rfl⟩
theorem d_L_law_486 : Dc code 486 3 489 (.invokevirtual 71) := ⟨by decide +kernel, rfl⟩
theorem d_L_law_489 : Dc code 489 1 490 (.aload_n 2) := ⟨by decide +kernel, rfl⟩
theorem d_L_law_490 : Dc code 490 3 493 (.invokevirtual 74) := ⟨by decide +kernel, rfl⟩
theorem d_L_law_493 : Dj code 493 496 880 (.if_icmp .eq) := ⟨387, by decide +kernel, rfl, by decide⟩
theorem d_L_law_496 : Dc code 496 1 497 (.iconst 0) := ⟨by decide +kernel, rfl⟩
theorem d_L_law_497 : decode code 497 = .ok (.ireturn, 1) := by decide +kernel
theorem d_L_law_498 : Dc code 498 1 499 (.aload_n 1) := ⟨by decide +kernel, rfl⟩
theorem d_L_law_499 : Dc code 499 1 500 (.aload_n 0) := ⟨by decide +kernel, rfl⟩
theorem d_L_law_500 : Dc code 500 1 501 (.iload_n 3) := ⟨by decide +kernel, rfl⟩
theorem d_L_law_501 : Dc code 501 1 502 (.iconst 1) := ⟨by decide +kernel, rfl⟩
theorem d_L_law_502 : Dc code 502 1 503 .iadd := ⟨by decide +kernel, rfl⟩
theorem d_L_law_503 : Dc code 503 1 504 .iaload := ⟨by decide +kernel, rfl⟩
theorem d_L_law_504 : Dc code 504 1 505 (.aload_n 0) := ⟨by decide +kernel, rfl⟩
theorem d_L_law_505 : Dc code 505 1 506 (.iload_n 3) := ⟨by decide +kernel, rfl⟩
theorem d_L_law_506 : Dc code 506 1 507 (.iconst 2) := ⟨by decide +kernel, rfl⟩
theorem d_L_law_507 : Dc code 507 1 508 .iadd := ⟨by decide +kernel, rfl⟩
theorem d_L_law_508 : Dc code 508 1 509 .iaload := ⟨by decide +kernel, rfl⟩
theorem d_L_law_509 : Dc code 509 3 512 (.invokevirtual 75) := ⟨by decide +kernel, rfl⟩
theorem d_L_law_512 : Dc code 512 1 513 (.aload_n 2) := ⟨by decide +kernel, rfl⟩
theorem d_L_law_513 : Dc code 513 1 514 (.aload_n 0) := ⟨by decide +kernel, rfl⟩
theorem d_L_law_514 : Dc code 514 1 515 (.iload_n 3) := ⟨by decide +kernel, rfl⟩
theorem d_L_law_515 : Dc code 515 1 516 (.iconst 1) := ⟨by decide +kernel, rfl⟩
theorem d_L_law_516 : Dc code 516 1 517 .iadd := ⟨by decide +kernel, rfl⟩
theorem d_L_law_517 : Dc code 517 1 518 .iaload := ⟨by decide +kernel, rfl⟩
theorem d_L_law_518 : Dc code 518 1 519 (.aload_n 0) := ⟨by decide +kernel, rfl⟩
theorem d_L_law_519 : Dc code 519 1 520 (.iload_n 3) := ⟨by decide +kernel, rfl⟩
theorem d_L_law_520 : Dc code 520 1 521 (.iconst 2) := ⟨by decide +kernel, rfl⟩
theorem d_L_law_521 : Dc code 521 1 522 .iadd := ⟨by decide +kernel, rfl⟩
theorem d_L_law_522 : Dc code 522 1 523 .iaload := ⟨by decide +kernel, rfl⟩
theorem d_L_law_523 : Dc code 523 3 526 (.invokevirtual 78) := ⟨by decide +kernel, rfl⟩
theorem d_L_law_526 : Dj code 526 529 880 (.if_icmp .eq) := ⟨354, by decide +kernel, rfl, by decide⟩
theorem d_L_law_529 : Dc code 529 1 530 (.iconst 0) := ⟨by decide +kernel, rfl⟩
theorem d_L_law_530 : decode code 530 = .ok (.ireturn, 1) := by decide +kernel
theorem d_L_law_531 : Dc code 531 1 532 (.aload_n 1) := ⟨by decide +kernel, rfl⟩
theorem d_L_law_532 : Dc code 532 1 533 (.aload_n 0) := ⟨by decide +kernel, rfl⟩
theorem d_L_law_533 : Dc code 533 1 534 (.iload_n 3) := ⟨by decide +kernel, rfl⟩
theorem d_L_law_534 : Dc code 534 1 535 (.iconst 1) := ⟨by decide +kernel, rfl⟩
theorem d_L_law_535 : Dc code 535 1 536 .iadd := ⟨by decide +kernel, rfl⟩
theorem d_L_law_536 : Dc code 536 1 537 .iaload := ⟨by decide +kernel, rfl⟩
theorem d_L_law_537 : Dc code 537 1 538 (.aload_n 0) := ⟨by decide +kernel, rfl⟩
theorem d_L_law_538 : Dc code 538 1 539 (.iload_n 3) := ⟨by decide +kernel, rfl⟩
theorem d_L_law_539 : Dc code 539 1 540 (.iconst 2) := ⟨by decide +kernel, rfl⟩
theorem d_L_law_540 : Dc code 540 1 541 .iadd := ⟨by decide +kernel, rfl⟩
theorem d_L_law_541 : Dc code 541 1 542 .iaload := ⟨by decide +kernel, rfl⟩
theorem d_L_law_542 : Dc code 542 1 543 (.aload_n 0) := ⟨by decide +kernel, rfl⟩
theorem d_L_law_543 : Dc code 543 1 544 (.iload_n 3) := ⟨by decide +kernel, rfl⟩
theorem d_L_law_544 : Dc code 544 1 545 (.iconst 3) := ⟨by decide +kernel, rfl⟩
theorem d_L_law_545 : Dc code 545 1 546 .iadd := ⟨by decide +kernel, rfl⟩
theorem d_L_law_546 : Dc code 546 1 547 .iaload := ⟨by decide +kernel, rfl⟩
theorem d_L_law_547 : Dc code 547 3 550 (.invokevirtual 79) := ⟨by decide +kernel, rfl⟩
theorem d_L_law_550 : Dc code 550 1 551 (.aload_n 2) := ⟨by decide +kernel, rfl⟩
theorem d_L_law_551 : Dc code 551 1 552 (.aload_n 0) := ⟨by decide +kernel, rfl⟩
theorem d_L_law_552 : Dc code 552 1 553 (.iload_n 3) := ⟨by decide +kernel, rfl⟩
theorem d_L_law_553 : Dc code 553 1 554 (.iconst 1) := ⟨by decide +kernel, rfl⟩
theorem d_L_law_554 : Dc code 554 1 555 .iadd := ⟨by decide +kernel, rfl⟩
theorem d_L_law_555 : Dc code 555 1 556 .iaload := ⟨by decide +kernel, rfl⟩
theorem d_L_law_556 : Dc code 556 1 557 (.aload_n 0) := ⟨by decide +kernel, rfl⟩
theorem d_L_law_557 : Dc code 557 1 558 (.iload_n 3) := ⟨by decide +kernel, rfl⟩
theorem d_L_law_558 : Dc code 558 1 559 (.iconst 2) := ⟨by decide +kernel, rfl⟩
theorem d_L_law_559 : Dc code 559 1 560 .iadd := ⟨by decide +kernel, rfl⟩
theorem d_L_law_560 : Dc code 560 1 561 .iaload := ⟨by decide +kernel, rfl⟩
theorem d_L_law_561 : Dc code 561 1 562 (.aload_n 0) := ⟨by decide +kernel, rfl⟩
theorem d_L_law_562 : Dc code 562 1 563 (.iload_n 3) := ⟨by decide +kernel, rfl⟩
theorem d_L_law_563 : Dc code 563 1 564 (.iconst 3) := ⟨by decide +kernel, rfl⟩
theorem d_L_law_564 : Dc code 564 1 565 .iadd := ⟨by decide +kernel, rfl⟩
theorem d_L_law_565 : Dc code 565 1 566 .iaload := ⟨by decide +kernel, rfl⟩
theorem d_L_law_566 : Dc code 566 3 569 (.invokevirtual 82) := ⟨by decide +kernel, rfl⟩
theorem d_L_law_569 : Dj code 569 572 880 (.if_icmp .eq) := ⟨311, by decide +kernel, rfl, by decide⟩
theorem d_L_law_572 : Dc code 572 1 573 (.iconst 0) := ⟨by decide +kernel, rfl⟩
theorem d_L_law_573 : decode code 573 = .ok (.ireturn, 1) := by decide +kernel
theorem d_L_law_574 : Dc code 574 1 575 (.aload_n 1) := ⟨by decide +kernel, rfl⟩
theorem d_L_law_575 : Dc code 575 1 576 (.aload_n 0) := ⟨by decide +kernel, rfl⟩
theorem d_L_law_576 : Dc code 576 1 577 (.iload_n 3) := ⟨by decide +kernel, rfl⟩
theorem d_L_law_577 : Dc code 577 1 578 (.iconst 1) := ⟨by decide +kernel, rfl⟩
theorem d_L_law_578 : Dc code 578 1 579 .iadd := ⟨by decide +kernel, rfl⟩
theorem d_L_law_579 : Dc code 579 1 580 .iaload := ⟨by decide +kernel, rfl⟩
theorem d_L_law_580 : Dc code 580 1 581 (.aload_n 0) := ⟨by decide +kernel, rfl⟩
theorem d_L_law_581 : Dc code 581 1 582 (.iload_n 3) := ⟨by decide +kernel, rfl⟩
theorem d_L_law_582 : Dc code 582 1 583 (.iconst 2) := ⟨by decide +kernel, rfl⟩
theorem d_L_law_583 : Dc code 583 1 584 .iadd := ⟨by decide +kernel, rfl⟩
theorem d_L_law_584 : Dc code 584 1 585 .iaload := ⟨by decide +kernel, rfl⟩
theorem d_L_law_585 : Dc code 585 1 586 (.aload_n 0) := ⟨by decide +kernel, rfl⟩
theorem d_L_law_586 : Dc code 586 1 587 (.iload_n 3) := ⟨by decide +kernel, rfl⟩
theorem d_L_law_587 : Dc code 587 1 588 (.iconst 3) := ⟨by decide +kernel, rfl⟩
theorem d_L_law_588 : Dc code 588 1 589 .iadd := ⟨by decide +kernel, rfl⟩
theorem d_L_law_589 : Dc code 589 1 590 .iaload := ⟨by decide +kernel, rfl⟩
theorem d_L_law_590 : Dc code 590 3 593 (.invokevirtual 83) := ⟨by decide +kernel, rfl⟩
theorem d_L_law_593 : Dc code 593 1 594 (.aload_n 2) := ⟨by decide +kernel, rfl⟩
theorem d_L_law_594 : Dc code 594 1 595 (.aload_n 0) := ⟨by decide +kernel, rfl⟩
theorem d_L_law_595 : Dc code 595 1 596 (.iload_n 3) := ⟨by decide +kernel, rfl⟩
theorem d_L_law_596 : Dc code 596 1 597 (.iconst 1) := ⟨by decide +kernel, rfl⟩
theorem d_L_law_597 : Dc code 597 1 598 .iadd := ⟨by decide +kernel, rfl⟩
theorem d_L_law_598 : Dc code 598 1 599 .iaload := ⟨by decide +kernel, rfl⟩
theorem d_L_law_599 : Dc code 599 1 600 (.aload_n 0) := ⟨by decide +kernel, rfl⟩
theorem d_L_law_600 : Dc code 600 1 601 (.iload_n 3) := ⟨by decide +kernel, rfl⟩
theorem d_L_law_601 : Dc code 601 1 602 (.iconst 2) := ⟨by decide +kernel, rfl⟩
theorem d_L_law_602 : Dc code 602 1 603 .iadd := ⟨by decide +kernel, rfl⟩
theorem d_L_law_603 : Dc code 603 1 604 .iaload := ⟨by decide +kernel, rfl⟩
theorem d_L_law_604 : Dc code 604 1 605 (.aload_n 0) := ⟨by decide +kernel, rfl⟩
theorem d_L_law_605 : Dc code 605 1 606 (.iload_n 3) := ⟨by decide +kernel, rfl⟩
theorem d_L_law_606 : Dc code 606 1 607 (.iconst 3) := ⟨by decide +kernel, rfl⟩
theorem d_L_law_607 : Dc code 607 1 608 .iadd := ⟨by decide +kernel, rfl⟩
theorem d_L_law_608 : Dc code 608 1 609 .iaload := ⟨by decide +kernel, rfl⟩
theorem d_L_law_609 : Dc code 609 3 612 (.invokevirtual 86) := ⟨by decide +kernel, rfl⟩
theorem d_L_law_612 : Dj code 612 615 880 (.if_icmp .eq) := ⟨268, by decide +kernel, rfl, by decide⟩
theorem d_L_law_615 : Dc code 615 1 616 (.iconst 0) := ⟨by decide +kernel, rfl⟩
theorem d_L_law_616 : decode code 616 = .ok (.ireturn, 1) := by decide +kernel
theorem d_L_law_617 : Dc code 617 1 618 (.aload_n 1) := ⟨by decide +kernel, rfl⟩
theorem d_L_law_618 : Dc code 618 1 619 (.aload_n 0) := ⟨by decide +kernel, rfl⟩
theorem d_L_law_619 : Dc code 619 1 620 (.iload_n 3) := ⟨by decide +kernel, rfl⟩
theorem d_L_law_620 : Dc code 620 1 621 (.iconst 1) := ⟨by decide +kernel, rfl⟩
theorem d_L_law_621 : Dc code 621 1 622 .iadd := ⟨by decide +kernel, rfl⟩
theorem d_L_law_622 : Dc code 622 1 623 .iaload := ⟨by decide +kernel, rfl⟩
theorem d_L_law_623 : Dc code 623 1 624 (.aload_n 0) := ⟨by decide +kernel, rfl⟩
theorem d_L_law_624 : Dc code 624 1 625 (.iload_n 3) := ⟨by decide +kernel, rfl⟩
theorem d_L_law_625 : Dc code 625 1 626 (.iconst 2) := ⟨by decide +kernel, rfl⟩
theorem d_L_law_626 : Dc code 626 1 627 .iadd := ⟨by decide +kernel, rfl⟩
theorem d_L_law_627 : Dc code 627 1 628 .iaload := ⟨by decide +kernel, rfl⟩
theorem d_L_law_628 : Dc code 628 3 631 (.invokevirtual 87) := ⟨by decide +kernel, rfl⟩
theorem d_L_law_631 : Dc code 631 1 632 (.aload_n 2) := ⟨by decide +kernel, rfl⟩
theorem d_L_law_632 : Dc code 632 1 633 (.aload_n 0) := ⟨by decide +kernel, rfl⟩
theorem d_L_law_633 : Dc code 633 1 634 (.iload_n 3) := ⟨by decide +kernel, rfl⟩
theorem d_L_law_634 : Dc code 634 1 635 (.iconst 1) := ⟨by decide +kernel, rfl⟩
theorem d_L_law_635 : Dc code 635 1 636 .iadd := ⟨by decide +kernel, rfl⟩
theorem d_L_law_636 : Dc code 636 1 637 .iaload := ⟨by decide +kernel, rfl⟩
theorem d_L_law_637 : Dc code 637 1 638 (.aload_n 0) := ⟨by decide +kernel, rfl⟩
theorem d_L_law_638 : Dc code 638 1 639 (.iload_n 3) := ⟨by decide +kernel, rfl⟩
theorem d_L_law_639 : Dc code 639 1 640 (.iconst 2) := ⟨by decide +kernel, rfl⟩
theorem d_L_law_640 : Dc code 640 1 641 .iadd := ⟨by decide +kernel, rfl⟩
theorem d_L_law_641 : Dc code 641 1 642 .iaload := ⟨by decide +kernel, rfl⟩
theorem d_L_law_642 : Dc code 642 3 645 (.invokevirtual 90) := ⟨by decide +kernel, rfl⟩
theorem d_L_law_645 : Dj code 645 648 880 (.if_icmp .eq) := ⟨235, by decide +kernel, rfl, by decide⟩
theorem d_L_law_648 : Dc code 648 1 649 (.iconst 0) := ⟨by decide +kernel, rfl⟩
theorem d_L_law_649 : decode code 649 = .ok (.ireturn, 1) := by decide +kernel
theorem d_L_law_650 : Dc code 650 1 651 (.aload_n 1) := ⟨by decide +kernel, rfl⟩
theorem d_L_law_651 : Dc code 651 1 652 (.aload_n 0) := ⟨by decide +kernel, rfl⟩
theorem d_L_law_652 : Dc code 652 1 653 (.iload_n 3) := ⟨by decide +kernel, rfl⟩
theorem d_L_law_653 : Dc code 653 1 654 (.iconst 1) := ⟨by decide +kernel, rfl⟩
theorem d_L_law_654 : Dc code 654 1 655 .iadd := ⟨by decide +kernel, rfl⟩
theorem d_L_law_655 : Dc code 655 1 656 .iaload := ⟨by decide +kernel, rfl⟩
theorem d_L_law_656 : Dc code 656 1 657 (.aload_n 0) := ⟨by decide +kernel, rfl⟩
theorem d_L_law_657 : Dc code 657 1 658 (.iload_n 3) := ⟨by decide +kernel, rfl⟩
theorem d_L_law_658 : Dc code 658 1 659 (.iconst 2) := ⟨by decide +kernel, rfl⟩
theorem d_L_law_659 : Dc code 659 1 660 .iadd := ⟨by decide +kernel, rfl⟩
theorem d_L_law_660 : Dc code 660 1 661 .iaload := ⟨by decide +kernel, rfl⟩
theorem d_L_law_661 : Dc code 661 1 662 (.aload_n 0) := ⟨by decide +kernel, rfl⟩
theorem d_L_law_662 : Dc code 662 1 663 (.iload_n 3) := ⟨by decide +kernel, rfl⟩
theorem d_L_law_663 : Dc code 663 1 664 (.iconst 3) := ⟨by decide +kernel, rfl⟩
theorem d_L_law_664 : Dc code 664 1 665 .iadd := ⟨by decide +kernel, rfl⟩
theorem d_L_law_665 : Dc code 665 1 666 .iaload := ⟨by decide +kernel, rfl⟩
theorem d_L_law_666 : Dc code 666 1 667 (.aload_n 0) := ⟨by decide +kernel, rfl⟩
theorem d_L_law_667 : Dc code 667 1 668 (.iload_n 3) := ⟨by decide +kernel, rfl⟩
theorem d_L_law_668 : Dc code 668 1 669 (.iconst 4) := ⟨by decide +kernel, rfl⟩
theorem d_L_law_669 : Dc code 669 1 670 .iadd := ⟨by decide +kernel, rfl⟩
theorem d_L_law_670 : Dc code 670 1 671 .iaload := ⟨by decide +kernel, rfl⟩
theorem d_L_law_671 : Dc code 671 1 672 (.aload_n 0) := ⟨by decide +kernel, rfl⟩
theorem d_L_law_672 : Dc code 672 1 673 (.iload_n 3) := ⟨by decide +kernel, rfl⟩
theorem d_L_law_673 : Dc code 673 1 674 (.iconst 5) := ⟨by decide +kernel, rfl⟩
theorem d_L_law_674 : Dc code 674 1 675 .iadd := ⟨by decide +kernel, rfl⟩
theorem d_L_law_675 : Dc code 675 1 676 .iaload := ⟨by decide +kernel, rfl⟩
theorem d_L_law_676 : Dj code 676 679 683 (.ifCond .eq) := ⟨7, by decide +kernel, rfl, by decide⟩
theorem d_L_law_679 : Dc code 679 1 680 (.iconst 1) := ⟨by decide +kernel, rfl⟩
theorem d_L_law_680 : Dj code 680 683 684 .goto := ⟨4, by decide +kernel, rfl, by decide⟩
theorem d_L_law_683 : Dc code 683 1 684 (.iconst 0) := ⟨by decide +kernel, rfl⟩
theorem d_L_law_684 : Dc code 684 3 687 (.invokevirtual 91) := ⟨by decide +kernel, rfl⟩
theorem d_L_law_687 : Dc code 687 1 688 (.aload_n 2) := ⟨by decide +kernel, rfl⟩
theorem d_L_law_688 : Dc code 688 1 689 (.aload_n 0) := ⟨by decide +kernel, rfl⟩
theorem d_L_law_689 : Dc code 689 1 690 (.iload_n 3) := ⟨by decide +kernel, rfl⟩
theorem d_L_law_690 : Dc code 690 1 691 (.iconst 1) := ⟨by decide +kernel, rfl⟩
theorem d_L_law_691 : Dc code 691 1 692 .iadd := ⟨by decide +kernel, rfl⟩
theorem d_L_law_692 : Dc code 692 1 693 .iaload := ⟨by decide +kernel, rfl⟩
theorem d_L_law_693 : Dc code 693 1 694 (.aload_n 0) := ⟨by decide +kernel, rfl⟩
theorem d_L_law_694 : Dc code 694 1 695 (.iload_n 3) := ⟨by decide +kernel, rfl⟩
theorem d_L_law_695 : Dc code 695 1 696 (.iconst 2) := ⟨by decide +kernel, rfl⟩
theorem d_L_law_696 : Dc code 696 1 697 .iadd := ⟨by decide +kernel, rfl⟩
theorem d_L_law_697 : Dc code 697 1 698 .iaload := ⟨by decide +kernel, rfl⟩
theorem d_L_law_698 : Dc code 698 1 699 (.aload_n 0) := ⟨by decide +kernel, rfl⟩
theorem d_L_law_699 : Dc code 699 1 700 (.iload_n 3) := ⟨by decide +kernel, rfl⟩
theorem d_L_law_700 : Dc code 700 1 701 (.iconst 3) := ⟨by decide +kernel, rfl⟩
theorem d_L_law_701 : Dc code 701 1 702 .iadd := ⟨by decide +kernel, rfl⟩
theorem d_L_law_702 : Dc code 702 1 703 .iaload := ⟨by decide +kernel, rfl⟩
theorem d_L_law_703 : Dc code 703 1 704 (.aload_n 0) := ⟨by decide +kernel, rfl⟩
theorem d_L_law_704 : Dc code 704 1 705 (.iload_n 3) := ⟨by decide +kernel, rfl⟩
theorem d_L_law_705 : Dc code 705 1 706 (.iconst 4) := ⟨by decide +kernel, rfl⟩
theorem d_L_law_706 : Dc code 706 1 707 .iadd := ⟨by decide +kernel, rfl⟩
theorem d_L_law_707 : Dc code 707 1 708 .iaload := ⟨by decide +kernel, rfl⟩
theorem d_L_law_708 : Dc code 708 1 709 (.aload_n 0) := ⟨by decide +kernel, rfl⟩
theorem d_L_law_709 : Dc code 709 1 710 (.iload_n 3) := ⟨by decide +kernel, rfl⟩
theorem d_L_law_710 : Dc code 710 1 711 (.iconst 5) := ⟨by decide +kernel, rfl⟩
theorem d_L_law_711 : Dc code 711 1 712 .iadd := ⟨by decide +kernel, rfl⟩
theorem d_L_law_712 : Dc code 712 1 713 .iaload := ⟨by decide +kernel, rfl⟩
theorem d_L_law_713 : Dj code 713 716 720 (.ifCond .eq) := ⟨7, by decide +kernel, rfl, by decide⟩
theorem d_L_law_716 : Dc code 716 1 717 (.iconst 1) := ⟨by decide +kernel, rfl⟩
theorem d_L_law_717 : Dj code 717 720 721 .goto := ⟨4, by decide +kernel, rfl, by decide⟩
theorem d_L_law_720 : Dc code 720 1 721 (.iconst 0) := ⟨by decide +kernel, rfl⟩
theorem d_L_law_721 : Dc code 721 3 724 (.invokevirtual 95) := ⟨by decide +kernel, rfl⟩
theorem d_L_law_724 : Dj code 724 727 880 (.if_icmp .eq) := ⟨156, by decide +kernel, rfl, by decide⟩
theorem d_L_law_727 : Dc code 727 1 728 (.iconst 0) := ⟨by decide +kernel, rfl⟩
theorem d_L_law_728 : decode code 728 = .ok (.ireturn, 1) := by decide +kernel
theorem d_L_law_729 : Dc code 729 1 730 (.aload_n 1) := ⟨by decide +kernel, rfl⟩
theorem d_L_law_730 : Dc code 730 1 731 (.aload_n 0) := ⟨by decide +kernel, rfl⟩
theorem d_L_law_731 : Dc code 731 1 732 (.iload_n 3) := ⟨by decide +kernel, rfl⟩
theorem d_L_law_732 : Dc code 732 1 733 (.iconst 1) := ⟨by decide +kernel, rfl⟩
theorem d_L_law_733 : Dc code 733 1 734 .iadd := ⟨by decide +kernel, rfl⟩
theorem d_L_law_734 : Dc code 734 1 735 .iaload := ⟨by decide +kernel, rfl⟩
theorem d_L_law_735 : Dc code 735 1 736 (.aload_n 0) := ⟨by decide +kernel, rfl⟩
theorem d_L_law_736 : Dc code 736 1 737 (.iload_n 3) := ⟨by decide +kernel, rfl⟩
theorem d_L_law_737 : Dc code 737 1 738 (.iconst 2) := ⟨by decide +kernel, rfl⟩
theorem d_L_law_738 : Dc code 738 1 739 .iadd := ⟨by decide +kernel, rfl⟩
theorem d_L_law_739 : Dc code 739 1 740 .iaload := ⟨by decide +kernel, rfl⟩
theorem d_L_law_740 : Dc code 740 3 743 (.invokevirtual 96) := ⟨by decide +kernel, rfl⟩
theorem d_L_law_743 : Dc code 743 1 744 (.aload_n 2) := ⟨by decide +kernel, rfl⟩
theorem d_L_law_744 : Dc code 744 1 745 (.aload_n 0) := ⟨by decide +kernel, rfl⟩
theorem d_L_law_745 : Dc code 745 1 746 (.iload_n 3) := ⟨by decide +kernel, rfl⟩
theorem d_L_law_746 : Dc code 746 1 747 (.iconst 1) := ⟨by decide +kernel, rfl⟩
theorem d_L_law_747 : Dc code 747 1 748 .iadd := ⟨by decide +kernel, rfl⟩
theorem d_L_law_748 : Dc code 748 1 749 .iaload := ⟨by decide +kernel, rfl⟩
theorem d_L_law_749 : Dc code 749 1 750 (.aload_n 0) := ⟨by decide +kernel, rfl⟩
theorem d_L_law_750 : Dc code 750 1 751 (.iload_n 3) := ⟨by decide +kernel, rfl⟩
theorem d_L_law_751 : Dc code 751 1 752 (.iconst 2) := ⟨by decide +kernel, rfl⟩
theorem d_L_law_752 : Dc code 752 1 753 .iadd := ⟨by decide +kernel, rfl⟩
theorem d_L_law_753 : Dc code 753 1 754 .iaload := ⟨by decide +kernel, rfl⟩
theorem d_L_law_754 : Dc code 754 3 757 (.invokevirtual 99) := ⟨by decide +kernel, rfl⟩
theorem d_L_law_757 : Dj code 757 760 880 (.if_icmp .eq) := ⟨123, by decide +kernel, rfl, by decide⟩
theorem d_L_law_760 : Dc code 760 1 761 (.iconst 0) := ⟨by decide +kernel, rfl⟩
theorem d_L_law_761 : decode code 761 = .ok (.ireturn, 1) := by decide +kernel
theorem d_L_law_762 : Dc code 762 1 763 (.aload_n 1) := ⟨by decide +kernel, rfl⟩
theorem d_L_law_763 : Dc code 763 1 764 (.aload_n 0) := ⟨by decide +kernel, rfl⟩
theorem d_L_law_764 : Dc code 764 1 765 (.iload_n 3) := ⟨by decide +kernel, rfl⟩
theorem d_L_law_765 : Dc code 765 1 766 (.iconst 1) := ⟨by decide +kernel, rfl⟩
theorem d_L_law_766 : Dc code 766 1 767 .iadd := ⟨by decide +kernel, rfl⟩
theorem d_L_law_767 : Dc code 767 1 768 .iaload := ⟨by decide +kernel, rfl⟩
theorem d_L_law_768 : Dc code 768 1 769 (.aload_n 0) := ⟨by decide +kernel, rfl⟩
theorem d_L_law_769 : Dc code 769 1 770 (.iload_n 3) := ⟨by decide +kernel, rfl⟩
theorem d_L_law_770 : Dc code 770 1 771 (.iconst 2) := ⟨by decide +kernel, rfl⟩
theorem d_L_law_771 : Dc code 771 1 772 .iadd := ⟨by decide +kernel, rfl⟩
theorem d_L_law_772 : Dc code 772 1 773 .iaload := ⟨by decide +kernel, rfl⟩
theorem d_L_law_773 : Dc code 773 3 776 (.invokevirtual 100) := ⟨by decide +kernel, rfl⟩
theorem d_L_law_776 : Dc code 776 1 777 (.aload_n 2) := ⟨by decide +kernel, rfl⟩
theorem d_L_law_777 : Dc code 777 1 778 (.aload_n 0) := ⟨by decide +kernel, rfl⟩
theorem d_L_law_778 : Dc code 778 1 779 (.iload_n 3) := ⟨by decide +kernel, rfl⟩
theorem d_L_law_779 : Dc code 779 1 780 (.iconst 1) := ⟨by decide +kernel, rfl⟩
theorem d_L_law_780 : Dc code 780 1 781 .iadd := ⟨by decide +kernel, rfl⟩
theorem d_L_law_781 : Dc code 781 1 782 .iaload := ⟨by decide +kernel, rfl⟩
theorem d_L_law_782 : Dc code 782 1 783 (.aload_n 0) := ⟨by decide +kernel, rfl⟩
theorem d_L_law_783 : Dc code 783 1 784 (.iload_n 3) := ⟨by decide +kernel, rfl⟩
theorem d_L_law_784 : Dc code 784 1 785 (.iconst 2) := ⟨by decide +kernel, rfl⟩
theorem d_L_law_785 : Dc code 785 1 786 .iadd := ⟨by decide +kernel, rfl⟩
theorem d_L_law_786 : Dc code 786 1 787 .iaload := ⟨by decide +kernel, rfl⟩
theorem d_L_law_787 : Dc code 787 3 790 (.invokevirtual 103) := ⟨by decide +kernel, rfl⟩
theorem d_L_law_790 : Dj code 790 793 880 (.if_icmp .eq) := ⟨90, by decide +kernel, rfl, by decide⟩
theorem d_L_law_793 : Dc code 793 1 794 (.iconst 0) := ⟨by decide +kernel, rfl⟩
theorem d_L_law_794 : decode code 794 = .ok (.ireturn, 1) := by decide +kernel
theorem d_L_law_795 : Dc code 795 1 796 (.aload_n 1) := ⟨by decide +kernel, rfl⟩
theorem d_L_law_796 : Dc code 796 3 799 (.invokevirtual 104) := ⟨by decide +kernel, rfl⟩
theorem d_L_law_799 : Dc code 799 1 800 (.aload_n 2) := ⟨by decide +kernel, rfl⟩
theorem d_L_law_800 : Dc code 800 3 803 (.invokevirtual 107) := ⟨by decide +kernel, rfl⟩
theorem d_L_law_803 : Dj code 803 806 880 (.if_icmp .eq) := ⟨77, by decide +kernel, rfl, by decide⟩
theorem d_L_law_806 : Dc code 806 1 807 (.iconst 0) := ⟨by decide +kernel, rfl⟩
theorem d_L_law_807 : decode code 807 = .ok (.ireturn, 1) := by decide +kernel
theorem d_L_law_808 : Dc code 808 1 809 (.aload_n 1) := ⟨by decide +kernel, rfl⟩
theorem d_L_law_809 : Dc code 809 1 810 (.aload_n 0) := ⟨by decide +kernel, rfl⟩
theorem d_L_law_810 : Dc code 810 1 811 (.iload_n 3) := ⟨by decide +kernel, rfl⟩
theorem d_L_law_811 : Dc code 811 1 812 (.iconst 1) := ⟨by decide +kernel, rfl⟩
theorem d_L_law_812 : Dc code 812 1 813 .iadd := ⟨by decide +kernel, rfl⟩
theorem d_L_law_813 : Dc code 813 1 814 .iaload := ⟨by decide +kernel, rfl⟩
theorem d_L_law_814 : Dc code 814 1 815 (.aload_n 0) := ⟨by decide +kernel, rfl⟩
theorem d_L_law_815 : Dc code 815 1 816 (.iload_n 3) := ⟨by decide +kernel, rfl⟩
theorem d_L_law_816 : Dc code 816 1 817 (.iconst 2) := ⟨by decide +kernel, rfl⟩
theorem d_L_law_817 : Dc code 817 1 818 .iadd := ⟨by decide +kernel, rfl⟩
theorem d_L_law_818 : Dc code 818 1 819 .iaload := ⟨by decide +kernel, rfl⟩
theorem d_L_law_819 : Dj code 819 822 826 (.ifCond .eq) := ⟨7, by decide +kernel, rfl, by decide⟩
theorem d_L_law_822 : Dc code 822 1 823 (.iconst 1) := ⟨by decide +kernel, rfl⟩
theorem d_L_law_823 : Dj code 823 826 827 .goto := ⟨4, by decide +kernel, rfl, by decide⟩
theorem d_L_law_826 : Dc code 826 1 827 (.iconst 0) := ⟨by decide +kernel, rfl⟩
theorem d_L_law_827 : Dc code 827 3 830 (.invokevirtual 108) := ⟨by decide +kernel, rfl⟩
theorem d_L_law_830 : Dc code 830 1 831 (.aload_n 2) := ⟨by decide +kernel, rfl⟩
theorem d_L_law_831 : Dc code 831 1 832 (.aload_n 0) := ⟨by decide +kernel, rfl⟩
theorem d_L_law_832 : Dc code 832 1 833 (.iload_n 3) := ⟨by decide +kernel, rfl⟩
theorem d_L_law_833 : Dc code 833 1 834 (.iconst 1) := ⟨by decide +kernel, rfl⟩
theorem d_L_law_834 : Dc code 834 1 835 .iadd := ⟨by decide +kernel, rfl⟩
theorem d_L_law_835 : Dc code 835 1 836 .iaload := ⟨by decide +kernel, rfl⟩
theorem d_L_law_836 : Dc code 836 1 837 (.aload_n 0) := ⟨by decide +kernel, rfl⟩
theorem d_L_law_837 : Dc code 837 1 838 (.iload_n 3) := ⟨by decide +kernel, rfl⟩
theorem d_L_law_838 : Dc code 838 1 839 (.iconst 2) := ⟨by decide +kernel, rfl⟩
theorem d_L_law_839 : Dc code 839 1 840 .iadd := ⟨by decide +kernel, rfl⟩
theorem d_L_law_840 : Dc code 840 1 841 .iaload := ⟨by decide +kernel, rfl⟩
theorem d_L_law_841 : Dj code 841 844 848 (.ifCond .eq) := ⟨7, by decide +kernel, rfl, by decide⟩
theorem d_L_law_844 : Dc code 844 1 845 (.iconst 1) := ⟨by decide +kernel, rfl⟩
theorem d_L_law_845 : Dj code 845 848 849 .goto := ⟨4, by decide +kernel, rfl, by decide⟩
theorem d_L_law_848 : Dc code 848 1 849 (.iconst 0) := ⟨by decide +kernel, rfl⟩
theorem d_L_law_849 : Dc code 849 3 852 (.invokevirtual 112) := ⟨by decide +kernel, rfl⟩
theorem d_L_law_852 : Dj code 852 855 880 (.if_icmp .eq) := ⟨28, by decide +kernel, rfl, by decide⟩
theorem d_L_law_855 : Dc code 855 1 856 (.iconst 0) := ⟨by decide +kernel, rfl⟩
theorem d_L_law_856 : decode code 856 = .ok (.ireturn, 1) := by decide +kernel
theorem d_L_law_857 : Dc code 857 1 858 (.aload_n 1) := ⟨by decide +kernel, rfl⟩
theorem d_L_law_858 : Dc code 858 1 859 (.aload_n 0) := ⟨by decide +kernel, rfl⟩
theorem d_L_law_859 : Dc code 859 1 860 (.iload_n 3) := ⟨by decide +kernel, rfl⟩
theorem d_L_law_860 : Dc code 860 1 861 (.iconst 1) := ⟨by decide +kernel, rfl⟩
theorem d_L_law_861 : Dc code 861 1 862 .iadd := ⟨by decide +kernel, rfl⟩
theorem d_L_law_862 : Dc code 862 1 863 .iaload := ⟨by decide +kernel, rfl⟩
theorem d_L_law_863 : Dc code 863 3 866 (.invokevirtual 113) := ⟨by decide +kernel, rfl⟩
theorem d_L_law_866 : Dc code 866 1 867 (.aload_n 2) := ⟨by decide +kernel, rfl⟩
theorem d_L_law_867 : Dc code 867 1 868 (.aload_n 0) := ⟨by decide +kernel, rfl⟩
theorem d_L_law_868 : Dc code 868 1 869 (.iload_n 3) := ⟨by decide +kernel, rfl⟩
theorem d_L_law_869 : Dc code 869 1 870 (.iconst 1) := ⟨by decide +kernel, rfl⟩
theorem d_L_law_870 : Dc code 870 1 871 .iadd := ⟨by decide +kernel, rfl⟩
theorem d_L_law_871 : Dc code 871 1 872 .iaload := ⟨by decide +kernel, rfl⟩
theorem d_L_law_872 : Dc code 872 3 875 (.invokevirtual 116) := ⟨by decide +kernel, rfl⟩
theorem d_L_law_875 : Dj code 875 878 880 (.if_icmp .eq) := ⟨5, by decide +kernel, rfl, by decide⟩
theorem d_L_law_878 : Dc code 878 1 879 (.iconst 0) := ⟨by decide +kernel, rfl⟩
theorem d_L_law_879 : decode code 879 = .ok (.ireturn, 1) := by decide +kernel
theorem d_L_law_880 : Dc code 880 3 883 (.iinc 3 6) := ⟨by decide +kernel, rfl⟩
theorem d_L_law_883 : Dj code 883 886 18 .goto := ⟨(-865), by decide +kernel, rfl, by decide⟩
theorem d_L_law_886 : Dc code 886 1 887 (.iconst 1) := ⟨by decide +kernel, rfl⟩
theorem d_L_law_887 : decode code 887 = .ok (.ireturn, 1) := by decide +kernel
set_option maxHeartbeats 40000000 in
set_option maxRecDepth 20000 in
theorem law_loop {E : Ev} {X : Cx} {b L o : Nat} {xs : Nat → Int32} (g0 : G0 E X code RL 16 600000 7302250) (hs : SX E X b L xs) (hL : L ≤ 3072) (hend : ∀ (nc ns n : Nat) (M : Mem) (lc : List (Option Value)), nc ≤ 600000 → ns ≤ 7302250 → V E X nc ns n M 887 lc [.int (iI 1)]) : ∀ (f k n : Nat) (M : Mem) (A : AS), L ≤ f + 6 * k → k ≤ 512 → XR E M (o + 444) n o A → MDp E M (o + 438) A → V E X (444 + 61 * k) (12800 + 244 * k) n M 18 [some (.ref b), some (.ref o), some (.ref (o + 438)), some (.int (iI (6 * (k : Int))))] [] := by
  intro f
  induction f using Nat.strongRecOn with
  | _ f ih =>
  intro k n M A hf hk hX hMd
  have hF := hX.fct
  have how := hF.2.2.2.2
  obtain ⟨fs, hXo, hXn⟩ := hX.now
  refine V.il3 g0 d_L_law_18 ?_
  refine V.al0 g0 d_L_law_19 ?_
  refine V.slen g0 d_L_law_20 hs ?_
  refine V.bipush g0 d_L_law_21 (by decide) ?_
  refine V.isub g0 d_L_law_23 ?_
  refine V.icmpgt g0 d_L_law_24 (by omega) (fun c_24 => ?_) (fun c_24 => ?_)
  · skip
    refine V.iconst g0 d_L_law_886 ?_
    exact hend _ _ _ _ _ (by omega) (by omega)
  · skip
    refine V.al0 g0 d_L_law_27 ?_
    refine V.il3 g0 d_L_law_28 ?_
    refine V.sld g0 d_L_law_29 hs (by omega) (by omega) ?_
    refine V.bipush g0 d_L_law_30 (by decide) ?_
    obtain ⟨zz, hz1, hz2, hz⟩ := iI_of (iI (sv xs (6 * (k : Int))) &&& iI 31)
    refine V.iand g0 d_L_law_32 hz ?_
    rcases (show (zz < 0 ∨ 23 < zz) ∨ zz = 0 ∨ zz = 1 ∨ zz = 2 ∨ zz = 3 ∨ zz = 4 ∨ zz = 5 ∨ zz = 6 ∨ zz = 7 ∨ zz = 8 ∨ zz = 9 ∨ zz = 10 ∨ zz = 11 ∨ zz = 12 ∨ zz = 13 ∨ zz = 14 ∨ zz = 15 ∨ zz = 16 ∨ zz = 17 ∨ zz = 18 ∨ zz = 19 ∨ zz = 20 ∨ zz = 21 ∨ zz = 22 ∨ zz = 23 by omega) with w_33 | w_33 | w_33 | w_33 | w_33 | w_33 | w_33 | w_33 | w_33 | w_33 | w_33 | w_33 | w_33 | w_33 | w_33 | w_33 | w_33 | w_33 | w_33 | w_33 | w_33 | w_33 | w_33 | w_33 | w_33
    · refine V.tout (q := 0) (t := 880) g0 d_L_law_33 (by omega) w_33 (by decide) ?_
      refine V.inc3 g0 d_L_law_880 ?_
      refine V.goto g0 d_L_law_883 ?_
      rw [show 6 * (k : Int) + 6 = 6 * ((k + 1 : Nat) : Int) by omega]
      exact V.wid (by omega) (by omega) (ih (f - 1) (by omega) (k + 1) _ _ _ (by omega) (by omega) hX hMd)
    · refine V.tin (q := 0) (off := 111) (t := 144) g0 d_L_law_33 (by omega) (by omega) (by omega) (by rw [w_33]; rfl) (by decide) ?_
      refine V.al1 g0 d_L_law_144 ?_
      refine V.al0 g0 d_L_law_145 ?_
      refine V.il3 g0 d_L_law_146 ?_
      refine V.iconst g0 d_L_law_147 ?_
      refine V.iadd g0 d_L_law_148 ?_
      refine V.sld g0 d_L_law_149 hs (by omega) (by omega) ?_
      refine V.callV g0 (c_X6_issue hX sv_rg) ky_X6_issue ki_X6_issue ks2_X6_issue lk_L_13 hXo rfl rfl (Nat.le_of_ble_eq_true rfl) ⟨by omega, by omega⟩ rfl rfl (Nat.le_of_ble_eq_true rfl) d_L_law_150 (fun v_150 n_150 M_150 h_150 => ?_)
      obtain ⟨rfl, hn1, hX1, hf1⟩ := h_150
      have hMd1 := hMd.fr (fun q a c => hf1 q (by omega) (by omega))
      refine V.al2 g0 d_L_law_153 ?_
      refine V.al0 g0 d_L_law_154 ?_
      refine V.il3 g0 d_L_law_155 ?_
      refine V.iconst g0 d_L_law_156 ?_
      refine V.iadd g0 d_L_law_157 ?_
      refine V.sld g0 d_L_law_158 hs (by omega) (by omega) ?_
      refine V.callV g0 (mR_issue hMd1 hF.2.1 hF.1 sv_rg) ky_X7_issue ki_X7_issue ks2_X7_issue lk_L_17 hMd1.ms.1.choose_spec rfl rfl (Nat.le_of_ble_eq_true rfl) ⟨by omega, by omega⟩ rfl rfl (Nat.le_of_ble_eq_true rfl) d_L_law_159 (fun v_159 n_159 M_159 h_159 => ?_)
      obtain ⟨rfl, e2, hMd2, hf2⟩ := h_159
      replace e2 := e2.symm
      subst e2
      have hX2 := hX1.frm (fun q hq => hf2 q (by omega))
      refine V.same g0 d_L_law_162 ?_
      refine V.inc3 g0 d_L_law_880 ?_
      refine V.goto g0 d_L_law_883 ?_
      rw [show 6 * (k : Int) + 6 = 6 * ((k + 1 : Nat) : Int) by omega]
      exact V.wid (by omega) (by omega) (ih (f - 1) (by omega) (k + 1) _ _ _ (by omega) (by omega) hX2 hMd2)
    · refine V.tin (q := 0) (off := 134) (t := 167) g0 d_L_law_33 (by omega) (by omega) (by omega) (by rw [w_33]; rfl) (by decide) ?_
      refine V.al1 g0 d_L_law_167 ?_
      refine V.al0 g0 d_L_law_168 ?_
      refine V.il3 g0 d_L_law_169 ?_
      refine V.iconst g0 d_L_law_170 ?_
      refine V.iadd g0 d_L_law_171 ?_
      refine V.sld g0 d_L_law_172 hs (by omega) (by omega) ?_
      refine V.callV g0 (c_X6_renew hX sv_rg) ky_X6_renew ki_X6_renew ks2_X6_renew lk_L_18 hXo rfl rfl (Nat.le_of_ble_eq_true rfl) ⟨by omega, by omega⟩ rfl rfl (Nat.le_of_ble_eq_true rfl) d_L_law_173 (fun v_173 n_173 M_173 h_173 => ?_)
      obtain ⟨rfl, hn1, hX1, hf1⟩ := h_173
      have hMd1 := hMd.fr (fun q a c => hf1 q (by omega) (by omega))
      refine V.al2 g0 d_L_law_176 ?_
      refine V.al0 g0 d_L_law_177 ?_
      refine V.il3 g0 d_L_law_178 ?_
      refine V.iconst g0 d_L_law_179 ?_
      refine V.iadd g0 d_L_law_180 ?_
      refine V.sld g0 d_L_law_181 hs (by omega) (by omega) ?_
      refine V.callV g0 (mR_renew hMd1 hF.2.1 hF.1 sv_rg) ky_X7_renew ki_X7_renew ks2_X7_renew lk_L_21 hMd1.ms.1.choose_spec rfl rfl (Nat.le_of_ble_eq_true rfl) ⟨by omega, by omega⟩ rfl rfl (Nat.le_of_ble_eq_true rfl) d_L_law_182 (fun v_182 n_182 M_182 h_182 => ?_)
      obtain ⟨rfl, e2, hMd2, hf2⟩ := h_182
      replace e2 := e2.symm
      subst e2
      have hX2 := hX1.frm (fun q hq => hf2 q (by omega))
      refine V.same g0 d_L_law_185 ?_
      refine V.inc3 g0 d_L_law_880 ?_
      refine V.goto g0 d_L_law_883 ?_
      rw [show 6 * (k : Int) + 6 = 6 * ((k + 1 : Nat) : Int) by omega]
      exact V.wid (by omega) (by omega) (ih (f - 1) (by omega) (k + 1) _ _ _ (by omega) (by omega) hX2 hMd2)
    · refine V.tin (q := 0) (off := 157) (t := 190) g0 d_L_law_33 (by omega) (by omega) (by omega) (by rw [w_33]; rfl) (by decide) ?_
      refine V.al1 g0 d_L_law_190 ?_
      refine V.al0 g0 d_L_law_191 ?_
      refine V.il3 g0 d_L_law_192 ?_
      refine V.iconst g0 d_L_law_193 ?_
      refine V.iadd g0 d_L_law_194 ?_
      refine V.sld g0 d_L_law_195 hs (by omega) (by omega) ?_
      refine V.al0 g0 d_L_law_196 ?_
      refine V.il3 g0 d_L_law_197 ?_
      refine V.iconst g0 d_L_law_198 ?_
      refine V.iadd g0 d_L_law_199 ?_
      refine V.sld g0 d_L_law_200 hs (by omega) (by omega) ?_
      refine V.al0 g0 d_L_law_201 ?_
      refine V.il3 g0 d_L_law_202 ?_
      refine V.iconst g0 d_L_law_203 ?_
      refine V.iadd g0 d_L_law_204 ?_
      refine V.sld g0 d_L_law_205 hs (by omega) (by omega) ?_
      refine V.al0 g0 d_L_law_206 ?_
      refine V.il3 g0 d_L_law_207 ?_
      refine V.iconst g0 d_L_law_208 ?_
      refine V.iadd g0 d_L_law_209 ?_
      refine V.sld g0 d_L_law_210 hs (by omega) (by omega) ?_
      refine V.al0 g0 d_L_law_211 ?_
      refine V.il3 g0 d_L_law_212 ?_
      refine V.iconst g0 d_L_law_213 ?_
      refine V.iadd g0 d_L_law_214 ?_
      refine V.sld g0 d_L_law_215 hs (by omega) (by omega) ?_
      refine V.callV g0 (c_X6_grant hX sv_rg sv_rg sv_rg sv_rg sv_rg) ky_X6_grant ki_X6_grant ks2_X6_grant lk_L_22 hXo rfl rfl (Nat.le_of_ble_eq_true rfl) ⟨by omega, by omega⟩ rfl rfl (Nat.le_of_ble_eq_true rfl) d_L_law_216 (fun v_216 n_216 M_216 h_216 => ?_)
      obtain ⟨rfl, hn1, hX1, hf1⟩ := h_216
      have hMd1 := hMd.fr (fun q a c => hf1 q (by omega) (by omega))
      refine V.al2 g0 d_L_law_219 ?_
      refine V.al0 g0 d_L_law_220 ?_
      refine V.il3 g0 d_L_law_221 ?_
      refine V.iconst g0 d_L_law_222 ?_
      refine V.iadd g0 d_L_law_223 ?_
      refine V.sld g0 d_L_law_224 hs (by omega) (by omega) ?_
      refine V.al0 g0 d_L_law_225 ?_
      refine V.il3 g0 d_L_law_226 ?_
      refine V.iconst g0 d_L_law_227 ?_
      refine V.iadd g0 d_L_law_228 ?_
      refine V.sld g0 d_L_law_229 hs (by omega) (by omega) ?_
      refine V.al0 g0 d_L_law_230 ?_
      refine V.il3 g0 d_L_law_231 ?_
      refine V.iconst g0 d_L_law_232 ?_
      refine V.iadd g0 d_L_law_233 ?_
      refine V.sld g0 d_L_law_234 hs (by omega) (by omega) ?_
      refine V.al0 g0 d_L_law_235 ?_
      refine V.il3 g0 d_L_law_236 ?_
      refine V.iconst g0 d_L_law_237 ?_
      refine V.iadd g0 d_L_law_238 ?_
      refine V.sld g0 d_L_law_239 hs (by omega) (by omega) ?_
      refine V.al0 g0 d_L_law_240 ?_
      refine V.il3 g0 d_L_law_241 ?_
      refine V.iconst g0 d_L_law_242 ?_
      refine V.iadd g0 d_L_law_243 ?_
      refine V.sld g0 d_L_law_244 hs (by omega) (by omega) ?_
      refine V.callV g0 (mR_grant hMd1 hF.2.1 hF.1 sv_rg sv_rg sv_rg sv_rg sv_rg) ky_X7_grant ki_X7_grant ks2_X7_grant lk_L_26 hMd1.ms.1.choose_spec rfl rfl (Nat.le_of_ble_eq_true rfl) ⟨by omega, by omega⟩ rfl rfl (Nat.le_of_ble_eq_true rfl) d_L_law_245 (fun v_245 n_245 M_245 h_245 => ?_)
      obtain ⟨rfl, e2, hMd2, hf2⟩ := h_245
      replace e2 := e2.symm
      subst e2
      have hX2 := hX1.frm (fun q hq => hf2 q (by omega))
      refine V.same g0 d_L_law_248 ?_
      refine V.inc3 g0 d_L_law_880 ?_
      refine V.goto g0 d_L_law_883 ?_
      rw [show 6 * (k : Int) + 6 = 6 * ((k + 1 : Nat) : Int) by omega]
      exact V.wid (by omega) (by omega) (ih (f - 1) (by omega) (k + 1) _ _ _ (by omega) (by omega) hX2 hMd2)
    · refine V.tin (q := 0) (off := 220) (t := 253) g0 d_L_law_33 (by omega) (by omega) (by omega) (by rw [w_33]; rfl) (by decide) ?_
      refine V.al1 g0 d_L_law_253 ?_
      refine V.al0 g0 d_L_law_254 ?_
      refine V.il3 g0 d_L_law_255 ?_
      refine V.iconst g0 d_L_law_256 ?_
      refine V.iadd g0 d_L_law_257 ?_
      refine V.sld g0 d_L_law_258 hs (by omega) (by omega) ?_
      refine V.al0 g0 d_L_law_259 ?_
      refine V.il3 g0 d_L_law_260 ?_
      refine V.iconst g0 d_L_law_261 ?_
      refine V.iadd g0 d_L_law_262 ?_
      refine V.sld g0 d_L_law_263 hs (by omega) (by omega) ?_
      refine V.callV g0 (c_X6_revoke hX sv_rg sv_rg) ky_X6_revoke ki_X6_revoke ks2_X6_revoke lk_L_27 hXo rfl rfl (Nat.le_of_ble_eq_true rfl) ⟨by omega, by omega⟩ rfl rfl (Nat.le_of_ble_eq_true rfl) d_L_law_264 (fun v_264 n_264 M_264 h_264 => ?_)
      obtain ⟨rfl, hn1, hX1, hf1⟩ := h_264
      have hMd1 := hMd.fr (fun q a c => hf1 q (by omega) (by omega))
      refine V.al2 g0 d_L_law_267 ?_
      refine V.al0 g0 d_L_law_268 ?_
      refine V.il3 g0 d_L_law_269 ?_
      refine V.iconst g0 d_L_law_270 ?_
      refine V.iadd g0 d_L_law_271 ?_
      refine V.sld g0 d_L_law_272 hs (by omega) (by omega) ?_
      refine V.al0 g0 d_L_law_273 ?_
      refine V.il3 g0 d_L_law_274 ?_
      refine V.iconst g0 d_L_law_275 ?_
      refine V.iadd g0 d_L_law_276 ?_
      refine V.sld g0 d_L_law_277 hs (by omega) (by omega) ?_
      refine V.callV g0 (mR_revoke hMd1 hF.2.1 hF.1 sv_rg sv_rg) ky_X7_revoke ki_X7_revoke ks2_X7_revoke lk_L_31 hMd1.ms.1.choose_spec rfl rfl (Nat.le_of_ble_eq_true rfl) ⟨by omega, by omega⟩ rfl rfl (Nat.le_of_ble_eq_true rfl) d_L_law_278 (fun v_278 n_278 M_278 h_278 => ?_)
      obtain ⟨rfl, e2, hMd2, hf2⟩ := h_278
      replace e2 := e2.symm
      subst e2
      have hX2 := hX1.frm (fun q hq => hf2 q (by omega))
      refine V.same g0 d_L_law_281 ?_
      refine V.inc3 g0 d_L_law_880 ?_
      refine V.goto g0 d_L_law_883 ?_
      rw [show 6 * (k : Int) + 6 = 6 * ((k + 1 : Nat) : Int) by omega]
      exact V.wid (by omega) (by omega) (ih (f - 1) (by omega) (k + 1) _ _ _ (by omega) (by omega) hX2 hMd2)
    · refine V.tin (q := 0) (off := 253) (t := 286) g0 d_L_law_33 (by omega) (by omega) (by omega) (by rw [w_33]; rfl) (by decide) ?_
      refine V.al1 g0 d_L_law_286 ?_
      refine V.al0 g0 d_L_law_287 ?_
      refine V.il3 g0 d_L_law_288 ?_
      refine V.iconst g0 d_L_law_289 ?_
      refine V.iadd g0 d_L_law_290 ?_
      refine V.sld g0 d_L_law_291 hs (by omega) (by omega) ?_
      refine V.al0 g0 d_L_law_292 ?_
      refine V.il3 g0 d_L_law_293 ?_
      refine V.iconst g0 d_L_law_294 ?_
      refine V.iadd g0 d_L_law_295 ?_
      refine V.sld g0 d_L_law_296 hs (by omega) (by omega) ?_
      refine V.callV g0 (c_X6_turnBorder hX sv_rg sv_rg) ky_X6_turnBorder ki_X6_turnBorder ks2_X6_turnBorder lk_L_32 hXo rfl rfl (Nat.le_of_ble_eq_true rfl) ⟨by omega, by omega⟩ rfl rfl (Nat.le_of_ble_eq_true rfl) d_L_law_297 (fun v_297 n_297 M_297 h_297 => ?_)
      obtain ⟨rfl, hn1, hX1, hf1⟩ := h_297
      have hMd1 := hMd.fr (fun q a c => hf1 q (by omega) (by omega))
      refine V.al2 g0 d_L_law_300 ?_
      refine V.al0 g0 d_L_law_301 ?_
      refine V.il3 g0 d_L_law_302 ?_
      refine V.iconst g0 d_L_law_303 ?_
      refine V.iadd g0 d_L_law_304 ?_
      refine V.sld g0 d_L_law_305 hs (by omega) (by omega) ?_
      refine V.al0 g0 d_L_law_306 ?_
      refine V.il3 g0 d_L_law_307 ?_
      refine V.iconst g0 d_L_law_308 ?_
      refine V.iadd g0 d_L_law_309 ?_
      refine V.sld g0 d_L_law_310 hs (by omega) (by omega) ?_
      refine V.callV g0 (mR_turnBorder hMd1 hF.2.1 hF.1 sv_rg sv_rg) ky_X7_turnBorder ki_X7_turnBorder ks2_X7_turnBorder lk_L_35 hMd1.ms.1.choose_spec rfl rfl (Nat.le_of_ble_eq_true rfl) ⟨by omega, by omega⟩ rfl rfl (Nat.le_of_ble_eq_true rfl) d_L_law_311 (fun v_311 n_311 M_311 h_311 => ?_)
      obtain ⟨rfl, e2, hMd2, hf2⟩ := h_311
      replace e2 := e2.symm
      subst e2
      have hX2 := hX1.frm (fun q hq => hf2 q (by omega))
      refine V.same g0 d_L_law_314 ?_
      refine V.inc3 g0 d_L_law_880 ?_
      refine V.goto g0 d_L_law_883 ?_
      rw [show 6 * (k : Int) + 6 = 6 * ((k + 1 : Nat) : Int) by omega]
      exact V.wid (by omega) (by omega) (ih (f - 1) (by omega) (k + 1) _ _ _ (by omega) (by omega) hX2 hMd2)
    · refine V.tin (q := 0) (off := 286) (t := 319) g0 d_L_law_33 (by omega) (by omega) (by omega) (by rw [w_33]; rfl) (by decide) ?_
      refine V.al1 g0 d_L_law_319 ?_
      refine V.al0 g0 d_L_law_320 ?_
      refine V.il3 g0 d_L_law_321 ?_
      refine V.iconst g0 d_L_law_322 ?_
      refine V.iadd g0 d_L_law_323 ?_
      refine V.sld g0 d_L_law_324 hs (by omega) (by omega) ?_
      refine V.al0 g0 d_L_law_325 ?_
      refine V.il3 g0 d_L_law_326 ?_
      refine V.iconst g0 d_L_law_327 ?_
      refine V.iadd g0 d_L_law_328 ?_
      refine V.sld g0 d_L_law_329 hs (by omega) (by omega) ?_
      refine V.al0 g0 d_L_law_330 ?_
      refine V.il3 g0 d_L_law_331 ?_
      refine V.iconst g0 d_L_law_332 ?_
      refine V.iadd g0 d_L_law_333 ?_
      refine V.sld g0 d_L_law_334 hs (by omega) (by omega) ?_
      refine V.callV g0 (c_X6_cross hX sv_rg sv_rg sv_rg) ky_X6_cross ki_X6_cross ks2_X6_cross lk_L_36 hXo rfl rfl (Nat.le_of_ble_eq_true rfl) ⟨by omega, by omega⟩ rfl rfl (Nat.le_of_ble_eq_true rfl) d_L_law_335 (fun v_335 n_335 M_335 h_335 => ?_)
      obtain ⟨rfl, hn1, hX1, hf1⟩ := h_335
      have hMd1 := hMd.fr (fun q a c => hf1 q (by omega) (by omega))
      refine V.al2 g0 d_L_law_338 ?_
      refine V.al0 g0 d_L_law_339 ?_
      refine V.il3 g0 d_L_law_340 ?_
      refine V.iconst g0 d_L_law_341 ?_
      refine V.iadd g0 d_L_law_342 ?_
      refine V.sld g0 d_L_law_343 hs (by omega) (by omega) ?_
      refine V.al0 g0 d_L_law_344 ?_
      refine V.il3 g0 d_L_law_345 ?_
      refine V.iconst g0 d_L_law_346 ?_
      refine V.iadd g0 d_L_law_347 ?_
      refine V.sld g0 d_L_law_348 hs (by omega) (by omega) ?_
      refine V.al0 g0 d_L_law_349 ?_
      refine V.il3 g0 d_L_law_350 ?_
      refine V.iconst g0 d_L_law_351 ?_
      refine V.iadd g0 d_L_law_352 ?_
      refine V.sld g0 d_L_law_353 hs (by omega) (by omega) ?_
      refine V.callV g0 (mR_cross hMd1 hF.2.1 hF.1 sv_rg sv_rg sv_rg) ky_X7_cross ki_X7_cross ks2_X7_cross lk_L_40 hMd1.ms.1.choose_spec rfl rfl (Nat.le_of_ble_eq_true rfl) ⟨by omega, by omega⟩ rfl rfl (Nat.le_of_ble_eq_true rfl) d_L_law_354 (fun v_354 n_354 M_354 h_354 => ?_)
      obtain ⟨rfl, e2, hMd2, hf2⟩ := h_354
      replace e2 := e2.symm
      subst e2
      have hX2 := hX1.frm (fun q hq => hf2 q (by omega))
      refine V.same g0 d_L_law_357 ?_
      refine V.inc3 g0 d_L_law_880 ?_
      refine V.goto g0 d_L_law_883 ?_
      rw [show 6 * (k : Int) + 6 = 6 * ((k + 1 : Nat) : Int) by omega]
      exact V.wid (by omega) (by omega) (ih (f - 1) (by omega) (k + 1) _ _ _ (by omega) (by omega) hX2 hMd2)
    · refine V.tin (q := 0) (off := 329) (t := 362) g0 d_L_law_33 (by omega) (by omega) (by omega) (by rw [w_33]; rfl) (by decide) ?_
      refine V.al1 g0 d_L_law_362 ?_
      refine V.al0 g0 d_L_law_363 ?_
      refine V.il3 g0 d_L_law_364 ?_
      refine V.iconst g0 d_L_law_365 ?_
      refine V.iadd g0 d_L_law_366 ?_
      refine V.sld g0 d_L_law_367 hs (by omega) (by omega) ?_
      refine V.callV g0 (c_X6_pass hX sv_rg) ky_X6_pass ki_X6_pass ks2_X6_pass lk_L_41 hXo rfl rfl (Nat.le_of_ble_eq_true rfl) ⟨by omega, by omega⟩ rfl rfl (Nat.le_of_ble_eq_true rfl) d_L_law_368 (fun v_368 n_368 M_368 h_368 => ?_)
      obtain ⟨rfl, hn1, hX1, hf1⟩ := h_368
      have hMd1 := hMd.fr (fun q a c => hf1 q (by omega) (by omega))
      refine V.al2 g0 d_L_law_371 ?_
      refine V.al0 g0 d_L_law_372 ?_
      refine V.il3 g0 d_L_law_373 ?_
      refine V.iconst g0 d_L_law_374 ?_
      refine V.iadd g0 d_L_law_375 ?_
      refine V.sld g0 d_L_law_376 hs (by omega) (by omega) ?_
      refine V.callV g0 (mR_pass hMd1 hF.2.1 hF.1 sv_rg) ky_X7_pass ki_X7_pass ks2_X7_pass lk_L_44 hMd1.ms.1.choose_spec rfl rfl (Nat.le_of_ble_eq_true rfl) ⟨by omega, by omega⟩ rfl rfl (Nat.le_of_ble_eq_true rfl) d_L_law_377 (fun v_377 n_377 M_377 h_377 => ?_)
      obtain ⟨rfl, e2, hMd2, hf2⟩ := h_377
      replace e2 := e2.symm
      subst e2
      have hX2 := hX1.frm (fun q hq => hf2 q (by omega))
      refine V.same g0 d_L_law_380 ?_
      refine V.inc3 g0 d_L_law_880 ?_
      refine V.goto g0 d_L_law_883 ?_
      rw [show 6 * (k : Int) + 6 = 6 * ((k + 1 : Nat) : Int) by omega]
      exact V.wid (by omega) (by omega) (ih (f - 1) (by omega) (k + 1) _ _ _ (by omega) (by omega) hX2 hMd2)
    · refine V.tin (q := 0) (off := 352) (t := 385) g0 d_L_law_33 (by omega) (by omega) (by omega) (by rw [w_33]; rfl) (by decide) ?_
      refine V.al1 g0 d_L_law_385 ?_
      refine V.al0 g0 d_L_law_386 ?_
      refine V.il3 g0 d_L_law_387 ?_
      refine V.iconst g0 d_L_law_388 ?_
      refine V.iadd g0 d_L_law_389 ?_
      refine V.sld g0 d_L_law_390 hs (by omega) (by omega) ?_
      obtain ⟨ch, hch1, hch⟩ := i2c_of (iI (sv xs (6 * (k : Int) + 1)))
      refine V.i2c g0 d_L_law_391 hch ?_
      refine V.callV g0 (c_X6_type hX hch1) ky_X6_type ki_X6_type ks2_X6_type lk_L_45 hXo rfl rfl (Nat.le_of_ble_eq_true rfl) ⟨by omega, by omega⟩ rfl rfl (Nat.le_of_ble_eq_true rfl) d_L_law_392 (fun v_392 n_392 M_392 h_392 => ?_)
      obtain ⟨rfl, hn1, hX1, hf1⟩ := h_392
      have hMd1 := hMd.fr (fun q a c => hf1 q (by omega) (by omega))
      refine V.al2 g0 d_L_law_395 ?_
      refine V.al0 g0 d_L_law_396 ?_
      refine V.il3 g0 d_L_law_397 ?_
      refine V.iconst g0 d_L_law_398 ?_
      refine V.iadd g0 d_L_law_399 ?_
      refine V.sld g0 d_L_law_400 hs (by omega) (by omega) ?_
      refine V.i2c g0 d_L_law_401 hch ?_
      refine V.callV g0 (mR_type hMd1 hF.2.2.2.1 ) ky_X7_type ki_X7_type ks2_X7_type lk_L_49 hMd1.ms.1.choose_spec rfl rfl (Nat.le_of_ble_eq_true rfl) ⟨by omega, by omega⟩ rfl rfl (Nat.le_of_ble_eq_true rfl) d_L_law_402 (fun v_402 n_402 M_402 h_402 => ?_)
      obtain ⟨rfl, e2, hMd2, hf2⟩ := h_402
      replace e2 := e2.symm
      subst e2
      have hX2 := hX1.frm (fun q hq => hf2 q (by omega))
      refine V.same g0 d_L_law_405 ?_
      refine V.inc3 g0 d_L_law_880 ?_
      refine V.goto g0 d_L_law_883 ?_
      rw [show 6 * (k : Int) + 6 = 6 * ((k + 1 : Nat) : Int) by omega]
      exact V.wid (by omega) (by omega) (ih (f - 1) (by omega) (k + 1) _ _ _ (by omega) (by omega) hX2 hMd2)
    · refine V.tin (q := 0) (off := 377) (t := 410) g0 d_L_law_33 (by omega) (by omega) (by omega) (by rw [w_33]; rfl) (by decide) ?_
      refine V.al1 g0 d_L_law_410 ?_
      refine V.callV g0 (c_X6_clearText hX ) ky_X6_clearText ki_X6_clearText ks2_X6_clearText lk_L_50 hXo rfl rfl (Nat.le_of_ble_eq_true rfl) ⟨by omega, by omega⟩ rfl rfl (Nat.le_of_ble_eq_true rfl) d_L_law_411 (fun v_411 n_411 M_411 h_411 => ?_)
      obtain ⟨rfl, hn1, hX1, hf1⟩ := h_411
      have hMd1 := hMd.fr (fun q a c => hf1 q (by omega) (by omega))
      refine V.al2 g0 d_L_law_414 ?_
      refine V.callV g0 (mR_clearText hMd1  ) ky_X7_clearText ki_X7_clearText ks2_X7_clearText lk_L_54 hMd1.ms.1.choose_spec rfl rfl (Nat.le_of_ble_eq_true rfl) ⟨by omega, by omega⟩ rfl rfl (Nat.le_of_ble_eq_true rfl) d_L_law_415 (fun v_415 n_415 M_415 h_415 => ?_)
      obtain ⟨rfl, e2, hMd2, hf2⟩ := h_415
      replace e2 := e2.symm
      subst e2
      have hX2 := hX1.frm (fun q hq => hf2 q (by omega))
      refine V.same g0 d_L_law_418 ?_
      refine V.inc3 g0 d_L_law_880 ?_
      refine V.goto g0 d_L_law_883 ?_
      rw [show 6 * (k : Int) + 6 = 6 * ((k + 1 : Nat) : Int) by omega]
      exact V.wid (by omega) (by omega) (ih (f - 1) (by omega) (k + 1) _ _ _ (by omega) (by omega) hX2 hMd2)
    · refine V.tin (q := 0) (off := 390) (t := 423) g0 d_L_law_33 (by omega) (by omega) (by omega) (by rw [w_33]; rfl) (by decide) ?_
      refine V.al1 g0 d_L_law_423 ?_
      refine V.callV g0 (c_X6_perform hX ) ky_X6_perform ki_X6_perform ks2_X6_perform lk_L_55 hXo rfl rfl (Nat.le_of_ble_eq_true rfl) ⟨by omega, by omega⟩ rfl rfl (Nat.le_of_ble_eq_true rfl) d_L_law_424 (fun v_424 n_424 M_424 h_424 => ?_)
      obtain ⟨rfl, hn1, hX1, hf1⟩ := h_424
      have hMd1 := hMd.fr (fun q a c => hf1 q (by omega) (by omega))
      refine V.al2 g0 d_L_law_427 ?_
      refine V.callV g0 (mR_perform hMd1 hF.2.2.2.1 hF.1 hF.2.1 ) ky_X7_perform ki_X7_perform ks2_X7_perform lk_L_58 hMd1.ms.1.choose_spec rfl rfl (Nat.le_of_ble_eq_true rfl) ⟨by omega, by omega⟩ rfl rfl (Nat.le_of_ble_eq_true rfl) d_L_law_428 (fun v_428 n_428 M_428 h_428 => ?_)
      obtain ⟨rfl, e2, hMd2, hf2⟩ := h_428
      replace e2 := e2.symm
      subst e2
      have hX2 := hX1.frm (fun q hq => hf2 q (by omega))
      refine V.same g0 d_L_law_431 ?_
      refine V.inc3 g0 d_L_law_880 ?_
      refine V.goto g0 d_L_law_883 ?_
      rw [show 6 * (k : Int) + 6 = 6 * ((k + 1 : Nat) : Int) by omega]
      exact V.wid (by omega) (by omega) (ih (f - 1) (by omega) (k + 1) _ _ _ (by omega) (by omega) hX2 hMd2)
    · refine V.tin (q := 0) (off := 403) (t := 436) g0 d_L_law_33 (by omega) (by omega) (by omega) (by rw [w_33]; rfl) (by decide) ?_
      refine V.al1 g0 d_L_law_436 ?_
      refine V.al0 g0 d_L_law_437 ?_
      refine V.il3 g0 d_L_law_438 ?_
      refine V.iconst g0 d_L_law_439 ?_
      refine V.iadd g0 d_L_law_440 ?_
      refine V.sld g0 d_L_law_441 hs (by omega) (by omega) ?_
      refine V.callVp g0 (c_X6_stopped hX sv_rg) ky_X6_stopped ki_X6_stopped ks2_X6_stopped lk_L_59 hXo rfl rfl (Nat.le_of_ble_eq_true rfl) ⟨by omega, by omega⟩ rfl rfl (Nat.le_of_ble_eq_true rfl) d_L_law_442 ?_
      refine V.al2 g0 d_L_law_445 ?_
      refine V.al0 g0 d_L_law_446 ?_
      refine V.il3 g0 d_L_law_447 ?_
      refine V.iconst g0 d_L_law_448 ?_
      refine V.iadd g0 d_L_law_449 ?_
      refine V.sld g0 d_L_law_450 hs (by omega) (by omega) ?_
      refine V.callVp g0 (mR_stopped hMd sv_rg) ky_X7_stopped ki_X7_stopped ks2_X7_stopped lk_L_62 hMd.ms.1.choose_spec rfl rfl (Nat.le_of_ble_eq_true rfl) ⟨by omega, by omega⟩ rfl rfl (Nat.le_of_ble_eq_true rfl) d_L_law_451 ?_
      refine V.same g0 d_L_law_454 ?_
      refine V.inc3 g0 d_L_law_880 ?_
      refine V.goto g0 d_L_law_883 ?_
      rw [show 6 * (k : Int) + 6 = 6 * ((k + 1 : Nat) : Int) by omega]
      exact V.wid (by omega) (by omega) (ih (f - 1) (by omega) (k + 1) _ _ _ (by omega) (by omega) hX hMd)
    · refine V.tin (q := 0) (off := 426) (t := 459) g0 d_L_law_33 (by omega) (by omega) (by omega) (by rw [w_33]; rfl) (by decide) ?_
      refine V.al1 g0 d_L_law_459 ?_
      refine V.callV g0 (c_X6_undo hX ) ky_X6_undo ki_X6_undo ks2_X6_undo lk_L_63 hXo rfl rfl (Nat.le_of_ble_eq_true rfl) ⟨by omega, by omega⟩ rfl rfl (Nat.le_of_ble_eq_true rfl) d_L_law_460 (fun v_460 n_460 M_460 h_460 => ?_)
      obtain ⟨rfl, hn1, hX1, hf1⟩ := h_460
      have hMd1 := hMd.fr (fun q a c => hf1 q (by omega) (by omega))
      refine V.al2 g0 d_L_law_463 ?_
      refine V.callV g0 (mR_undo hMd1 hF.2.1 ) ky_X7_undo ki_X7_undo ks2_X7_undo lk_L_66 hMd1.ms.1.choose_spec rfl rfl (Nat.le_of_ble_eq_true rfl) ⟨by omega, by omega⟩ rfl rfl (Nat.le_of_ble_eq_true rfl) d_L_law_464 (fun v_464 n_464 M_464 h_464 => ?_)
      obtain ⟨rfl, e2, hMd2, hf2⟩ := h_464
      replace e2 := e2.symm
      subst e2
      have hX2 := hX1.frm (fun q hq => hf2 q (by omega))
      refine V.same g0 d_L_law_467 ?_
      refine V.inc3 g0 d_L_law_880 ?_
      refine V.goto g0 d_L_law_883 ?_
      rw [show 6 * (k : Int) + 6 = 6 * ((k + 1 : Nat) : Int) by omega]
      exact V.wid (by omega) (by omega) (ih (f - 1) (by omega) (k + 1) _ _ _ (by omega) (by omega) hX2 hMd2)
    · refine V.tin (q := 0) (off := 439) (t := 472) g0 d_L_law_33 (by omega) (by omega) (by omega) (by rw [w_33]; rfl) (by decide) ?_
      refine V.al1 g0 d_L_law_472 ?_
      refine V.callV g0 (c_X6_keep hX ) ky_X6_keep ki_X6_keep ks2_X6_keep lk_L_67 hXo rfl rfl (Nat.le_of_ble_eq_true rfl) ⟨by omega, by omega⟩ rfl rfl (Nat.le_of_ble_eq_true rfl) d_L_law_473 (fun v_473 n_473 M_473 h_473 => ?_)
      obtain ⟨rfl, hn1, hX1, hf1⟩ := h_473
      have hMd1 := hMd.fr (fun q a c => hf1 q (by omega) (by omega))
      refine V.al2 g0 d_L_law_476 ?_
      refine V.callV g0 (mR_keep hMd1  ) ky_X7_keep ki_X7_keep ks2_X7_keep lk_L_70 hMd1.ms.1.choose_spec rfl rfl (Nat.le_of_ble_eq_true rfl) ⟨by omega, by omega⟩ rfl rfl (Nat.le_of_ble_eq_true rfl) d_L_law_477 (fun v_477 n_477 M_477 h_477 => ?_)
      obtain ⟨rfl, e2, hMd2, hf2⟩ := h_477
      replace e2 := e2.symm
      subst e2
      have hX2 := hX1.frm (fun q hq => hf2 q (by omega))
      refine V.same g0 d_L_law_480 ?_
      refine V.inc3 g0 d_L_law_880 ?_
      refine V.goto g0 d_L_law_883 ?_
      rw [show 6 * (k : Int) + 6 = 6 * ((k + 1 : Nat) : Int) by omega]
      exact V.wid (by omega) (by omega) (ih (f - 1) (by omega) (k + 1) _ _ _ (by omega) (by omega) hX2 hMd2)
    · refine V.tin (q := 0) (off := 452) (t := 485) g0 d_L_law_33 (by omega) (by omega) (by omega) (by rw [w_33]; rfl) (by decide) ?_
      refine V.al1 g0 d_L_law_485 ?_
      refine V.callV g0 (c_X6_restore hX ) ky_X6_restore ki_X6_restore ks2_X6_restore lk_L_71 hXo rfl rfl (Nat.le_of_ble_eq_true rfl) ⟨by omega, by omega⟩ rfl rfl (Nat.le_of_ble_eq_true rfl) d_L_law_486 (fun v_486 n_486 M_486 h_486 => ?_)
      obtain ⟨rfl, hn1, hX1, hf1⟩ := h_486
      have hMd1 := hMd.fr (fun q a c => hf1 q (by omega) (by omega))
      refine V.al2 g0 d_L_law_489 ?_
      refine V.callV g0 (mR_restore hMd1 hF.2.1 hF.2.2.1 ) ky_X7_restore ki_X7_restore ks2_X7_restore lk_L_74 hMd1.ms.1.choose_spec rfl rfl (Nat.le_of_ble_eq_true rfl) ⟨by omega, by omega⟩ rfl rfl (Nat.le_of_ble_eq_true rfl) d_L_law_490 (fun v_490 n_490 M_490 h_490 => ?_)
      obtain ⟨rfl, e2, hMd2, hf2⟩ := h_490
      replace e2 := e2.symm
      subst e2
      have hX2 := hX1.frm (fun q hq => hf2 q (by omega))
      refine V.same g0 d_L_law_493 ?_
      refine V.inc3 g0 d_L_law_880 ?_
      refine V.goto g0 d_L_law_883 ?_
      rw [show 6 * (k : Int) + 6 = 6 * ((k + 1 : Nat) : Int) by omega]
      exact V.wid (by omega) (by omega) (ih (f - 1) (by omega) (k + 1) _ _ _ (by omega) (by omega) hX2 hMd2)
    · refine V.tin (q := 0) (off := 465) (t := 498) g0 d_L_law_33 (by omega) (by omega) (by omega) (by rw [w_33]; rfl) (by decide) ?_
      refine V.al1 g0 d_L_law_498 ?_
      refine V.al0 g0 d_L_law_499 ?_
      refine V.il3 g0 d_L_law_500 ?_
      refine V.iconst g0 d_L_law_501 ?_
      refine V.iadd g0 d_L_law_502 ?_
      refine V.sld g0 d_L_law_503 hs (by omega) (by omega) ?_
      refine V.al0 g0 d_L_law_504 ?_
      refine V.il3 g0 d_L_law_505 ?_
      refine V.iconst g0 d_L_law_506 ?_
      refine V.iadd g0 d_L_law_507 ?_
      refine V.sld g0 d_L_law_508 hs (by omega) (by omega) ?_
      refine V.callVp g0 (c_X6_passport hXo hXn sv_rg sv_rg) ky_X6_passport ki_X6_passport ks2_X6_passport lk_L_75 hXo rfl rfl (Nat.le_of_ble_eq_true rfl) ⟨by omega, by omega⟩ rfl rfl (Nat.le_of_ble_eq_true rfl) d_L_law_509 ?_
      refine V.al2 g0 d_L_law_512 ?_
      refine V.al0 g0 d_L_law_513 ?_
      refine V.il3 g0 d_L_law_514 ?_
      refine V.iconst g0 d_L_law_515 ?_
      refine V.iadd g0 d_L_law_516 ?_
      refine V.sld g0 d_L_law_517 hs (by omega) (by omega) ?_
      refine V.al0 g0 d_L_law_518 ?_
      refine V.il3 g0 d_L_law_519 ?_
      refine V.iconst g0 d_L_law_520 ?_
      refine V.iadd g0 d_L_law_521 ?_
      refine V.sld g0 d_L_law_522 hs (by omega) (by omega) ?_
      refine V.callVp g0 (c_X7_passport hMd.ms hF.1 sv_rg sv_rg) ky_X7_passport ki_X7_passport ks2_X7_passport lk_L_78 hMd.ms.1.choose_spec rfl rfl (Nat.le_of_ble_eq_true rfl) ⟨by omega, by omega⟩ rfl rfl (Nat.le_of_ble_eq_true rfl) d_L_law_523 ?_
      refine V.same g0 d_L_law_526 ?_
      refine V.inc3 g0 d_L_law_880 ?_
      refine V.goto g0 d_L_law_883 ?_
      rw [show 6 * (k : Int) + 6 = 6 * ((k + 1 : Nat) : Int) by omega]
      exact V.wid (by omega) (by omega) (ih (f - 1) (by omega) (k + 1) _ _ _ (by omega) (by omega) hX hMd)
    · refine V.tin (q := 0) (off := 498) (t := 531) g0 d_L_law_33 (by omega) (by omega) (by omega) (by rw [w_33]; rfl) (by decide) ?_
      refine V.al1 g0 d_L_law_531 ?_
      refine V.al0 g0 d_L_law_532 ?_
      refine V.il3 g0 d_L_law_533 ?_
      refine V.iconst g0 d_L_law_534 ?_
      refine V.iadd g0 d_L_law_535 ?_
      refine V.sld g0 d_L_law_536 hs (by omega) (by omega) ?_
      refine V.al0 g0 d_L_law_537 ?_
      refine V.il3 g0 d_L_law_538 ?_
      refine V.iconst g0 d_L_law_539 ?_
      refine V.iadd g0 d_L_law_540 ?_
      refine V.sld g0 d_L_law_541 hs (by omega) (by omega) ?_
      refine V.al0 g0 d_L_law_542 ?_
      refine V.il3 g0 d_L_law_543 ?_
      refine V.iconst g0 d_L_law_544 ?_
      refine V.iadd g0 d_L_law_545 ?_
      refine V.sld g0 d_L_law_546 hs (by omega) (by omega) ?_
      refine V.callVp g0 (c_X6_stamp hXo hXn sv_rg sv_rg sv_rg) ky_X6_stamp ki_X6_stamp ks2_X6_stamp lk_L_79 hXo rfl rfl (Nat.le_of_ble_eq_true rfl) ⟨by omega, by omega⟩ rfl rfl (Nat.le_of_ble_eq_true rfl) d_L_law_547 ?_
      refine V.al2 g0 d_L_law_550 ?_
      refine V.al0 g0 d_L_law_551 ?_
      refine V.il3 g0 d_L_law_552 ?_
      refine V.iconst g0 d_L_law_553 ?_
      refine V.iadd g0 d_L_law_554 ?_
      refine V.sld g0 d_L_law_555 hs (by omega) (by omega) ?_
      refine V.al0 g0 d_L_law_556 ?_
      refine V.il3 g0 d_L_law_557 ?_
      refine V.iconst g0 d_L_law_558 ?_
      refine V.iadd g0 d_L_law_559 ?_
      refine V.sld g0 d_L_law_560 hs (by omega) (by omega) ?_
      refine V.al0 g0 d_L_law_561 ?_
      refine V.il3 g0 d_L_law_562 ?_
      refine V.iconst g0 d_L_law_563 ?_
      refine V.iadd g0 d_L_law_564 ?_
      refine V.sld g0 d_L_law_565 hs (by omega) (by omega) ?_
      refine V.callVp g0 (c_X7_stamp hMd.ms hF.1 sv_rg sv_rg sv_rg) ky_X7_stamp ki_X7_stamp ks2_X7_stamp lk_L_82 hMd.ms.1.choose_spec rfl rfl (Nat.le_of_ble_eq_true rfl) ⟨by omega, by omega⟩ rfl rfl (Nat.le_of_ble_eq_true rfl) d_L_law_566 ?_
      refine V.same g0 d_L_law_569 ?_
      refine V.inc3 g0 d_L_law_880 ?_
      refine V.goto g0 d_L_law_883 ?_
      rw [show 6 * (k : Int) + 6 = 6 * ((k + 1 : Nat) : Int) by omega]
      exact V.wid (by omega) (by omega) (ih (f - 1) (by omega) (k + 1) _ _ _ (by omega) (by omega) hX hMd)
    · refine V.tin (q := 0) (off := 541) (t := 574) g0 d_L_law_33 (by omega) (by omega) (by omega) (by rw [w_33]; rfl) (by decide) ?_
      refine V.al1 g0 d_L_law_574 ?_
      refine V.al0 g0 d_L_law_575 ?_
      refine V.il3 g0 d_L_law_576 ?_
      refine V.iconst g0 d_L_law_577 ?_
      refine V.iadd g0 d_L_law_578 ?_
      refine V.sld g0 d_L_law_579 hs (by omega) (by omega) ?_
      refine V.al0 g0 d_L_law_580 ?_
      refine V.il3 g0 d_L_law_581 ?_
      refine V.iconst g0 d_L_law_582 ?_
      refine V.iadd g0 d_L_law_583 ?_
      refine V.sld g0 d_L_law_584 hs (by omega) (by omega) ?_
      refine V.al0 g0 d_L_law_585 ?_
      refine V.il3 g0 d_L_law_586 ?_
      refine V.iconst g0 d_L_law_587 ?_
      refine V.iadd g0 d_L_law_588 ?_
      refine V.sld g0 d_L_law_589 hs (by omega) (by omega) ?_
      refine V.callVp g0 (c_X6_visa hXo hXn sv_rg sv_rg sv_rg) ky_X6_visa ki_X6_visa ks2_X6_visa lk_L_83 hXo rfl rfl (Nat.le_of_ble_eq_true rfl) ⟨by omega, by omega⟩ rfl rfl (Nat.le_of_ble_eq_true rfl) d_L_law_590 ?_
      refine V.al2 g0 d_L_law_593 ?_
      refine V.al0 g0 d_L_law_594 ?_
      refine V.il3 g0 d_L_law_595 ?_
      refine V.iconst g0 d_L_law_596 ?_
      refine V.iadd g0 d_L_law_597 ?_
      refine V.sld g0 d_L_law_598 hs (by omega) (by omega) ?_
      refine V.al0 g0 d_L_law_599 ?_
      refine V.il3 g0 d_L_law_600 ?_
      refine V.iconst g0 d_L_law_601 ?_
      refine V.iadd g0 d_L_law_602 ?_
      refine V.sld g0 d_L_law_603 hs (by omega) (by omega) ?_
      refine V.al0 g0 d_L_law_604 ?_
      refine V.il3 g0 d_L_law_605 ?_
      refine V.iconst g0 d_L_law_606 ?_
      refine V.iadd g0 d_L_law_607 ?_
      refine V.sld g0 d_L_law_608 hs (by omega) (by omega) ?_
      refine V.callVp g0 (c_X7_visa hMd.ms hF.1 sv_rg sv_rg sv_rg) ky_X7_visa ki_X7_visa ks2_X7_visa lk_L_86 hMd.ms.1.choose_spec rfl rfl (Nat.le_of_ble_eq_true rfl) ⟨by omega, by omega⟩ rfl rfl (Nat.le_of_ble_eq_true rfl) d_L_law_609 ?_
      refine V.same g0 d_L_law_612 ?_
      refine V.inc3 g0 d_L_law_880 ?_
      refine V.goto g0 d_L_law_883 ?_
      rw [show 6 * (k : Int) + 6 = 6 * ((k + 1 : Nat) : Int) by omega]
      exact V.wid (by omega) (by omega) (ih (f - 1) (by omega) (k + 1) _ _ _ (by omega) (by omega) hX hMd)
    · refine V.tin (q := 0) (off := 584) (t := 617) g0 d_L_law_33 (by omega) (by omega) (by omega) (by rw [w_33]; rfl) (by decide) ?_
      refine V.al1 g0 d_L_law_617 ?_
      refine V.al0 g0 d_L_law_618 ?_
      refine V.il3 g0 d_L_law_619 ?_
      refine V.iconst g0 d_L_law_620 ?_
      refine V.iadd g0 d_L_law_621 ?_
      refine V.sld g0 d_L_law_622 hs (by omega) (by omega) ?_
      refine V.al0 g0 d_L_law_623 ?_
      refine V.il3 g0 d_L_law_624 ?_
      refine V.iconst g0 d_L_law_625 ?_
      refine V.iadd g0 d_L_law_626 ?_
      refine V.sld g0 d_L_law_627 hs (by omega) (by omega) ?_
      refine V.callVp g0 (c_X6_reason hXo hXn sv_rg sv_rg) ky_X6_reason ki_X6_reason ks2_X6_reason lk_L_87 hXo rfl rfl (Nat.le_of_ble_eq_true rfl) ⟨by omega, by omega⟩ rfl rfl (Nat.le_of_ble_eq_true rfl) d_L_law_628 ?_
      refine V.al2 g0 d_L_law_631 ?_
      refine V.al0 g0 d_L_law_632 ?_
      refine V.il3 g0 d_L_law_633 ?_
      refine V.iconst g0 d_L_law_634 ?_
      refine V.iadd g0 d_L_law_635 ?_
      refine V.sld g0 d_L_law_636 hs (by omega) (by omega) ?_
      refine V.al0 g0 d_L_law_637 ?_
      refine V.il3 g0 d_L_law_638 ?_
      refine V.iconst g0 d_L_law_639 ?_
      refine V.iadd g0 d_L_law_640 ?_
      refine V.sld g0 d_L_law_641 hs (by omega) (by omega) ?_
      refine V.callVp g0 (c_X7_reason hMd.ms hF.1 sv_rg sv_rg) ky_X7_reason ki_X7_reason ks2_X7_reason lk_L_90 hMd.ms.1.choose_spec rfl rfl (Nat.le_of_ble_eq_true rfl) ⟨by omega, by omega⟩ rfl rfl (Nat.le_of_ble_eq_true rfl) d_L_law_642 ?_
      refine V.same g0 d_L_law_645 ?_
      refine V.inc3 g0 d_L_law_880 ?_
      refine V.goto g0 d_L_law_883 ?_
      rw [show 6 * (k : Int) + 6 = 6 * ((k + 1 : Nat) : Int) by omega]
      exact V.wid (by omega) (by omega) (ih (f - 1) (by omega) (k + 1) _ _ _ (by omega) (by omega) hX hMd)
    · refine V.tin (q := 0) (off := 617) (t := 650) g0 d_L_law_33 (by omega) (by omega) (by omega) (by rw [w_33]; rfl) (by decide) ?_
      refine V.al1 g0 d_L_law_650 ?_
      refine V.al0 g0 d_L_law_651 ?_
      refine V.il3 g0 d_L_law_652 ?_
      refine V.iconst g0 d_L_law_653 ?_
      refine V.iadd g0 d_L_law_654 ?_
      refine V.sld g0 d_L_law_655 hs (by omega) (by omega) ?_
      refine V.al0 g0 d_L_law_656 ?_
      refine V.il3 g0 d_L_law_657 ?_
      refine V.iconst g0 d_L_law_658 ?_
      refine V.iadd g0 d_L_law_659 ?_
      refine V.sld g0 d_L_law_660 hs (by omega) (by omega) ?_
      refine V.al0 g0 d_L_law_661 ?_
      refine V.il3 g0 d_L_law_662 ?_
      refine V.iconst g0 d_L_law_663 ?_
      refine V.iadd g0 d_L_law_664 ?_
      refine V.sld g0 d_L_law_665 hs (by omega) (by omega) ?_
      refine V.al0 g0 d_L_law_666 ?_
      refine V.il3 g0 d_L_law_667 ?_
      refine V.iconst g0 d_L_law_668 ?_
      refine V.iadd g0 d_L_law_669 ?_
      refine V.sld g0 d_L_law_670 hs (by omega) (by omega) ?_
      refine V.al0 g0 d_L_law_671 ?_
      refine V.il3 g0 d_L_law_672 ?_
      refine V.iconst g0 d_L_law_673 ?_
      refine V.iadd g0 d_L_law_674 ?_
      refine V.sld g0 d_L_law_675 hs (by omega) (by omega) ?_
      refine V.ifeq g0 d_L_law_676 sv_rg (fun c_676 => ?_) (fun c_676 => ?_)
      · skip
        refine V.iconst g0 d_L_law_683 ?_
        refine V.callVp g0 (c_X6_stay hXo hXn sv_rg sv_rg sv_rg sv_rg (by decide)) ky_X6_stay ki_X6_stay ks2_X6_stay lk_L_91 hXo rfl rfl (Nat.le_of_ble_eq_true rfl) ⟨by omega, by omega⟩ rfl rfl (Nat.le_of_ble_eq_true rfl) d_L_law_684 ?_
        refine V.al2 g0 d_L_law_687 ?_
        refine V.al0 g0 d_L_law_688 ?_
        refine V.il3 g0 d_L_law_689 ?_
        refine V.iconst g0 d_L_law_690 ?_
        refine V.iadd g0 d_L_law_691 ?_
        refine V.sld g0 d_L_law_692 hs (by omega) (by omega) ?_
        refine V.al0 g0 d_L_law_693 ?_
        refine V.il3 g0 d_L_law_694 ?_
        refine V.iconst g0 d_L_law_695 ?_
        refine V.iadd g0 d_L_law_696 ?_
        refine V.sld g0 d_L_law_697 hs (by omega) (by omega) ?_
        refine V.al0 g0 d_L_law_698 ?_
        refine V.il3 g0 d_L_law_699 ?_
        refine V.iconst g0 d_L_law_700 ?_
        refine V.iadd g0 d_L_law_701 ?_
        refine V.sld g0 d_L_law_702 hs (by omega) (by omega) ?_
        refine V.al0 g0 d_L_law_703 ?_
        refine V.il3 g0 d_L_law_704 ?_
        refine V.iconst g0 d_L_law_705 ?_
        refine V.iadd g0 d_L_law_706 ?_
        refine V.sld g0 d_L_law_707 hs (by omega) (by omega) ?_
        refine V.al0 g0 d_L_law_708 ?_
        refine V.il3 g0 d_L_law_709 ?_
        refine V.iconst g0 d_L_law_710 ?_
        refine V.iadd g0 d_L_law_711 ?_
        refine V.sld g0 d_L_law_712 hs (by omega) (by omega) ?_
        refine V.ifeq g0 d_L_law_713 sv_rg (fun c_713 => ?_) (fun c_713 => ?_)
        · skip
          refine V.iconst g0 d_L_law_720 ?_
          refine V.callVp g0 (c_X7_stay hMd.ms hF.1 sv_rg sv_rg sv_rg sv_rg (by decide)) ky_X7_stay ki_X7_stay ks2_X7_stay lk_L_95 hMd.ms.1.choose_spec rfl rfl (Nat.le_of_ble_eq_true rfl) ⟨by omega, by omega⟩ rfl rfl (Nat.le_of_ble_eq_true rfl) d_L_law_721 ?_
          refine V.same g0 d_L_law_724 ?_
          refine V.inc3 g0 d_L_law_880 ?_
          refine V.goto g0 d_L_law_883 ?_
          rw [show 6 * (k : Int) + 6 = 6 * ((k + 1 : Nat) : Int) by omega]
          exact V.wid (by omega) (by omega) (ih (f - 1) (by omega) (k + 1) _ _ _ (by omega) (by omega) hX hMd)
        · skip
          exfalso; first | exact c_676 c_713 | exact c_713 c_676
      · skip
        refine V.iconst g0 d_L_law_679 ?_
        refine V.goto g0 d_L_law_680 ?_
        refine V.callVp g0 (c_X6_stay hXo hXn sv_rg sv_rg sv_rg sv_rg (by decide)) ky_X6_stay ki_X6_stay ks2_X6_stay lk_L_91 hXo rfl rfl (Nat.le_of_ble_eq_true rfl) ⟨by omega, by omega⟩ rfl rfl (Nat.le_of_ble_eq_true rfl) d_L_law_684 ?_
        refine V.al2 g0 d_L_law_687 ?_
        refine V.al0 g0 d_L_law_688 ?_
        refine V.il3 g0 d_L_law_689 ?_
        refine V.iconst g0 d_L_law_690 ?_
        refine V.iadd g0 d_L_law_691 ?_
        refine V.sld g0 d_L_law_692 hs (by omega) (by omega) ?_
        refine V.al0 g0 d_L_law_693 ?_
        refine V.il3 g0 d_L_law_694 ?_
        refine V.iconst g0 d_L_law_695 ?_
        refine V.iadd g0 d_L_law_696 ?_
        refine V.sld g0 d_L_law_697 hs (by omega) (by omega) ?_
        refine V.al0 g0 d_L_law_698 ?_
        refine V.il3 g0 d_L_law_699 ?_
        refine V.iconst g0 d_L_law_700 ?_
        refine V.iadd g0 d_L_law_701 ?_
        refine V.sld g0 d_L_law_702 hs (by omega) (by omega) ?_
        refine V.al0 g0 d_L_law_703 ?_
        refine V.il3 g0 d_L_law_704 ?_
        refine V.iconst g0 d_L_law_705 ?_
        refine V.iadd g0 d_L_law_706 ?_
        refine V.sld g0 d_L_law_707 hs (by omega) (by omega) ?_
        refine V.al0 g0 d_L_law_708 ?_
        refine V.il3 g0 d_L_law_709 ?_
        refine V.iconst g0 d_L_law_710 ?_
        refine V.iadd g0 d_L_law_711 ?_
        refine V.sld g0 d_L_law_712 hs (by omega) (by omega) ?_
        refine V.ifeq g0 d_L_law_713 sv_rg (fun c_713 => ?_) (fun c_713 => ?_)
        · skip
          exfalso; first | exact c_676 c_713 | exact c_713 c_676
        · skip
          refine V.iconst g0 d_L_law_716 ?_
          refine V.goto g0 d_L_law_717 ?_
          refine V.callVp g0 (c_X7_stay hMd.ms hF.1 sv_rg sv_rg sv_rg sv_rg (by decide)) ky_X7_stay ki_X7_stay ks2_X7_stay lk_L_95 hMd.ms.1.choose_spec rfl rfl (Nat.le_of_ble_eq_true rfl) ⟨by omega, by omega⟩ rfl rfl (Nat.le_of_ble_eq_true rfl) d_L_law_721 ?_
          refine V.same g0 d_L_law_724 ?_
          refine V.inc3 g0 d_L_law_880 ?_
          refine V.goto g0 d_L_law_883 ?_
          rw [show 6 * (k : Int) + 6 = 6 * ((k + 1 : Nat) : Int) by omega]
          exact V.wid (by omega) (by omega) (ih (f - 1) (by omega) (k + 1) _ _ _ (by omega) (by omega) hX hMd)
    · refine V.tin (q := 0) (off := 696) (t := 729) g0 d_L_law_33 (by omega) (by omega) (by omega) (by rw [w_33]; rfl) (by decide) ?_
      refine V.al1 g0 d_L_law_729 ?_
      refine V.al0 g0 d_L_law_730 ?_
      refine V.il3 g0 d_L_law_731 ?_
      refine V.iconst g0 d_L_law_732 ?_
      refine V.iadd g0 d_L_law_733 ?_
      refine V.sld g0 d_L_law_734 hs (by omega) (by omega) ?_
      refine V.al0 g0 d_L_law_735 ?_
      refine V.il3 g0 d_L_law_736 ?_
      refine V.iconst g0 d_L_law_737 ?_
      refine V.iadd g0 d_L_law_738 ?_
      refine V.sld g0 d_L_law_739 hs (by omega) (by omega) ?_
      refine V.callVp g0 (c_X6_wayTo hXo hXn sv_rg sv_rg) ky_X6_wayTo ki_X6_wayTo ks2_X6_wayTo lk_L_96 hXo rfl rfl (Nat.le_of_ble_eq_true rfl) ⟨by omega, by omega⟩ rfl rfl (Nat.le_of_ble_eq_true rfl) d_L_law_740 ?_
      refine V.al2 g0 d_L_law_743 ?_
      refine V.al0 g0 d_L_law_744 ?_
      refine V.il3 g0 d_L_law_745 ?_
      refine V.iconst g0 d_L_law_746 ?_
      refine V.iadd g0 d_L_law_747 ?_
      refine V.sld g0 d_L_law_748 hs (by omega) (by omega) ?_
      refine V.al0 g0 d_L_law_749 ?_
      refine V.il3 g0 d_L_law_750 ?_
      refine V.iconst g0 d_L_law_751 ?_
      refine V.iadd g0 d_L_law_752 ?_
      refine V.sld g0 d_L_law_753 hs (by omega) (by omega) ?_
      refine V.callVp g0 (c_X7_wayTo hMd.ms hF.1 sv_rg sv_rg) ky_X7_wayTo ki_X7_wayTo ks2_X7_wayTo lk_L_99 hMd.ms.1.choose_spec rfl rfl (Nat.le_of_ble_eq_true rfl) ⟨by omega, by omega⟩ rfl rfl (Nat.le_of_ble_eq_true rfl) d_L_law_754 ?_
      refine V.same g0 d_L_law_757 ?_
      refine V.inc3 g0 d_L_law_880 ?_
      refine V.goto g0 d_L_law_883 ?_
      rw [show 6 * (k : Int) + 6 = 6 * ((k + 1 : Nat) : Int) by omega]
      exact V.wid (by omega) (by omega) (ih (f - 1) (by omega) (k + 1) _ _ _ (by omega) (by omega) hX hMd)
    · refine V.tin (q := 0) (off := 729) (t := 762) g0 d_L_law_33 (by omega) (by omega) (by omega) (by rw [w_33]; rfl) (by decide) ?_
      refine V.al1 g0 d_L_law_762 ?_
      refine V.al0 g0 d_L_law_763 ?_
      refine V.il3 g0 d_L_law_764 ?_
      refine V.iconst g0 d_L_law_765 ?_
      refine V.iadd g0 d_L_law_766 ?_
      refine V.sld g0 d_L_law_767 hs (by omega) (by omega) ?_
      refine V.al0 g0 d_L_law_768 ?_
      refine V.il3 g0 d_L_law_769 ?_
      refine V.iconst g0 d_L_law_770 ?_
      refine V.iadd g0 d_L_law_771 ?_
      refine V.sld g0 d_L_law_772 hs (by omega) (by omega) ?_
      refine V.callVp g0 (c_X6_daysLeft hXo hXn sv_rg sv_rg) ky_X6_daysLeft ki_X6_daysLeft ks2_X6_daysLeft lk_L_100 hXo rfl rfl (Nat.le_of_ble_eq_true rfl) ⟨by omega, by omega⟩ rfl rfl (Nat.le_of_ble_eq_true rfl) d_L_law_773 ?_
      refine V.al2 g0 d_L_law_776 ?_
      refine V.al0 g0 d_L_law_777 ?_
      refine V.il3 g0 d_L_law_778 ?_
      refine V.iconst g0 d_L_law_779 ?_
      refine V.iadd g0 d_L_law_780 ?_
      refine V.sld g0 d_L_law_781 hs (by omega) (by omega) ?_
      refine V.al0 g0 d_L_law_782 ?_
      refine V.il3 g0 d_L_law_783 ?_
      refine V.iconst g0 d_L_law_784 ?_
      refine V.iadd g0 d_L_law_785 ?_
      refine V.sld g0 d_L_law_786 hs (by omega) (by omega) ?_
      refine V.callVp g0 (c_X7_daysLeft hMd.ms hF.1 sv_rg sv_rg) ky_X7_daysLeft ki_X7_daysLeft ks2_X7_daysLeft lk_L_103 hMd.ms.1.choose_spec rfl rfl (Nat.le_of_ble_eq_true rfl) ⟨by omega, by omega⟩ rfl rfl (Nat.le_of_ble_eq_true rfl) d_L_law_787 ?_
      refine V.same g0 d_L_law_790 ?_
      refine V.inc3 g0 d_L_law_880 ?_
      refine V.goto g0 d_L_law_883 ?_
      rw [show 6 * (k : Int) + 6 = 6 * ((k + 1 : Nat) : Int) by omega]
      exact V.wid (by omega) (by omega) (ih (f - 1) (by omega) (k + 1) _ _ _ (by omega) (by omega) hX hMd)
    · refine V.tin (q := 0) (off := 762) (t := 795) g0 d_L_law_33 (by omega) (by omega) (by omega) (by rw [w_33]; rfl) (by decide) ?_
      refine V.al1 g0 d_L_law_795 ?_
      refine V.callVp g0 (c_X6_mistold hXo hXn ) ky_X6_mistold ki_X6_mistold ks2_X6_mistold lk_L_104 hXo rfl rfl (Nat.le_of_ble_eq_true rfl) ⟨by omega, by omega⟩ rfl rfl (Nat.le_of_ble_eq_true rfl) d_L_law_796 ?_
      refine V.al2 g0 d_L_law_799 ?_
      refine V.callVp g0 (c_X7_mistold hMd.ms hF.1 ) ky_X7_mistold ki_X7_mistold ks2_X7_mistold lk_L_107 hMd.ms.1.choose_spec rfl rfl (Nat.le_of_ble_eq_true rfl) ⟨by omega, by omega⟩ rfl rfl (Nat.le_of_ble_eq_true rfl) d_L_law_800 ?_
      refine V.same g0 d_L_law_803 ?_
      refine V.inc3 g0 d_L_law_880 ?_
      refine V.goto g0 d_L_law_883 ?_
      rw [show 6 * (k : Int) + 6 = 6 * ((k + 1 : Nat) : Int) by omega]
      exact V.wid (by omega) (by omega) (ih (f - 1) (by omega) (k + 1) _ _ _ (by omega) (by omega) hX hMd)
    · refine V.tin (q := 0) (off := 775) (t := 808) g0 d_L_law_33 (by omega) (by omega) (by omega) (by rw [w_33]; rfl) (by decide) ?_
      refine V.al1 g0 d_L_law_808 ?_
      refine V.al0 g0 d_L_law_809 ?_
      refine V.il3 g0 d_L_law_810 ?_
      refine V.iconst g0 d_L_law_811 ?_
      refine V.iadd g0 d_L_law_812 ?_
      refine V.sld g0 d_L_law_813 hs (by omega) (by omega) ?_
      refine V.al0 g0 d_L_law_814 ?_
      refine V.il3 g0 d_L_law_815 ?_
      refine V.iconst g0 d_L_law_816 ?_
      refine V.iadd g0 d_L_law_817 ?_
      refine V.sld g0 d_L_law_818 hs (by omega) (by omega) ?_
      refine V.ifeq g0 d_L_law_819 sv_rg (fun c_819 => ?_) (fun c_819 => ?_)
      · skip
        refine V.iconst g0 d_L_law_826 ?_
        refine V.callVp g0 (c_X6_holders hXo hXn sv_rg (by decide)) ky_X6_holders ki_X6_holders ks2_X6_holders lk_L_108 hXo rfl rfl (Nat.le_of_ble_eq_true rfl) ⟨by omega, by omega⟩ rfl rfl (Nat.le_of_ble_eq_true rfl) d_L_law_827 ?_
        refine V.al2 g0 d_L_law_830 ?_
        refine V.al0 g0 d_L_law_831 ?_
        refine V.il3 g0 d_L_law_832 ?_
        refine V.iconst g0 d_L_law_833 ?_
        refine V.iadd g0 d_L_law_834 ?_
        refine V.sld g0 d_L_law_835 hs (by omega) (by omega) ?_
        refine V.al0 g0 d_L_law_836 ?_
        refine V.il3 g0 d_L_law_837 ?_
        refine V.iconst g0 d_L_law_838 ?_
        refine V.iadd g0 d_L_law_839 ?_
        refine V.sld g0 d_L_law_840 hs (by omega) (by omega) ?_
        refine V.ifeq g0 d_L_law_841 sv_rg (fun c_841 => ?_) (fun c_841 => ?_)
        · skip
          refine V.iconst g0 d_L_law_848 ?_
          refine V.callVp g0 (c_X7_holders hMd.ms hF.1 sv_rg (by decide)) ky_X7_holders ki_X7_holders ks2_X7_holders lk_L_112 hMd.ms.1.choose_spec rfl rfl (Nat.le_of_ble_eq_true rfl) ⟨by omega, by omega⟩ rfl rfl (Nat.le_of_ble_eq_true rfl) d_L_law_849 ?_
          refine V.same g0 d_L_law_852 ?_
          refine V.inc3 g0 d_L_law_880 ?_
          refine V.goto g0 d_L_law_883 ?_
          rw [show 6 * (k : Int) + 6 = 6 * ((k + 1 : Nat) : Int) by omega]
          exact V.wid (by omega) (by omega) (ih (f - 1) (by omega) (k + 1) _ _ _ (by omega) (by omega) hX hMd)
        · skip
          exfalso; first | exact c_819 c_841 | exact c_841 c_819
      · skip
        refine V.iconst g0 d_L_law_822 ?_
        refine V.goto g0 d_L_law_823 ?_
        refine V.callVp g0 (c_X6_holders hXo hXn sv_rg (by decide)) ky_X6_holders ki_X6_holders ks2_X6_holders lk_L_108 hXo rfl rfl (Nat.le_of_ble_eq_true rfl) ⟨by omega, by omega⟩ rfl rfl (Nat.le_of_ble_eq_true rfl) d_L_law_827 ?_
        refine V.al2 g0 d_L_law_830 ?_
        refine V.al0 g0 d_L_law_831 ?_
        refine V.il3 g0 d_L_law_832 ?_
        refine V.iconst g0 d_L_law_833 ?_
        refine V.iadd g0 d_L_law_834 ?_
        refine V.sld g0 d_L_law_835 hs (by omega) (by omega) ?_
        refine V.al0 g0 d_L_law_836 ?_
        refine V.il3 g0 d_L_law_837 ?_
        refine V.iconst g0 d_L_law_838 ?_
        refine V.iadd g0 d_L_law_839 ?_
        refine V.sld g0 d_L_law_840 hs (by omega) (by omega) ?_
        refine V.ifeq g0 d_L_law_841 sv_rg (fun c_841 => ?_) (fun c_841 => ?_)
        · skip
          exfalso; first | exact c_819 c_841 | exact c_841 c_819
        · skip
          refine V.iconst g0 d_L_law_844 ?_
          refine V.goto g0 d_L_law_845 ?_
          refine V.callVp g0 (c_X7_holders hMd.ms hF.1 sv_rg (by decide)) ky_X7_holders ki_X7_holders ks2_X7_holders lk_L_112 hMd.ms.1.choose_spec rfl rfl (Nat.le_of_ble_eq_true rfl) ⟨by omega, by omega⟩ rfl rfl (Nat.le_of_ble_eq_true rfl) d_L_law_849 ?_
          refine V.same g0 d_L_law_852 ?_
          refine V.inc3 g0 d_L_law_880 ?_
          refine V.goto g0 d_L_law_883 ?_
          rw [show 6 * (k : Int) + 6 = 6 * ((k + 1 : Nat) : Int) by omega]
          exact V.wid (by omega) (by omega) (ih (f - 1) (by omega) (k + 1) _ _ _ (by omega) (by omega) hX hMd)
    · refine V.tin (q := 0) (off := 824) (t := 857) g0 d_L_law_33 (by omega) (by omega) (by omega) (by rw [w_33]; rfl) (by decide) ?_
      refine V.al1 g0 d_L_law_857 ?_
      refine V.al0 g0 d_L_law_858 ?_
      refine V.il3 g0 d_L_law_859 ?_
      refine V.iconst g0 d_L_law_860 ?_
      refine V.iadd g0 d_L_law_861 ?_
      refine V.sld g0 d_L_law_862 hs (by omega) (by omega) ?_
      refine V.callVp g0 (q6_count hX sv_rg) ky_X6_count ki_X6_count ks2_X6_count lk_L_113 hXo rfl rfl (Nat.le_of_ble_eq_true rfl) ⟨by omega, by omega⟩ rfl rfl (Nat.le_of_ble_eq_true rfl) d_L_law_863 ?_
      refine V.al2 g0 d_L_law_866 ?_
      refine V.al0 g0 d_L_law_867 ?_
      refine V.il3 g0 d_L_law_868 ?_
      refine V.iconst g0 d_L_law_869 ?_
      refine V.iadd g0 d_L_law_870 ?_
      refine V.sld g0 d_L_law_871 hs (by omega) (by omega) ?_
      refine V.callVp g0 (mR_count hMd hF.1 sv_rg) ky_X7_count ki_X7_count ks2_X7_count lk_L_116 hMd.ms.1.choose_spec rfl rfl (Nat.le_of_ble_eq_true rfl) ⟨by omega, by omega⟩ rfl rfl (Nat.le_of_ble_eq_true rfl) d_L_law_872 ?_
      refine V.same g0 d_L_law_875 ?_
      refine V.inc3 g0 d_L_law_880 ?_
      refine V.goto g0 d_L_law_883 ?_
      rw [show 6 * (k : Int) + 6 = 6 * ((k + 1 : Nat) : Int) by omega]
      exact V.wid (by omega) (by omega) (ih (f - 1) (by omega) (k + 1) _ _ _ (by omega) (by omega) hX hMd)
set_option maxHeartbeats 40000000 in
set_option maxRecDepth 20000 in
theorem law_all {E : Ev} {X : Cx} {b L o : Nat} {xs : Nat → Int32} (g0 : G0 E X code RL 16 600000 7302250) (hs : SX E X b L xs) (hL : L ≤ 3072) (hend : ∀ (nc ns n : Nat) (M : Mem) (lc : List (Option Value)), nc ≤ 600000 → ns ≤ 7302250 → V E X nc ns n M 887 lc [.int (iI 1)]) {M : Mem} : V E X 0 0 o M 0 [some (.ref b), none, none, none] [] := by
  refine V.newo g0 d_L_law_0 nw_L_7 (by omega) (by omega) ?_
  refine V.dup g0 d_L_law_3 rfl ?_
  refine V.callI g0 (c_X6_init rfl up_s) ky_X6_init ki_X6_init rfl lk_L_9 (Nat.le_of_ble_eq_true rfl) ⟨by omega, by omega⟩ rfl rfl (Nat.le_of_ble_eq_true rfl) d_L_law_4 (fun v_4 n_4 M_4 h_4 => ?_)
  obtain ⟨rfl, rfl, rfl⟩ := h_4
  refine V.repR (a := o + 187) (w := 3) (f := gR (o + 188) 62 4) (h := hrF (ad0 o)) ((hd_i (by decide) (by decide)).trans cX_r) (fun j g1 g2 => if_pos (by omega)) ?_
  refine V.as1 g0 d_L_law_7 ?_
  refine V.newo g0 d_L_law_8 nw_L_10 (by omega) (by omega) ?_
  refine V.dup g0 d_L_law_11 rfl ?_
  refine V.callI g0 (c_X7_init (m := o + 438) rfl up_s) ky_X7_init ki_X7_init rfl lk_L_12 (Nat.le_of_ble_eq_true rfl) ⟨by omega, by omega⟩ rfl rfl (Nat.le_of_ble_eq_true rfl) d_L_law_12 (fun v_12 n_12 M_12 h_12 => ?_)
  obtain ⟨rfl, rfl, rfl⟩ := h_12
  refine V.as2 g0 d_L_law_15 ?_
  refine V.iconst g0 d_L_law_16 ?_
  refine V.is3 g0 d_L_law_17 ?_
  have hfr : ∀ q, q < o + 438 → ∀ M0 : Mem, md E (va_up M0 (o + 438) (.inr (7, [.null, .null, .null, .int 0, .null, .int 0, .null, .int 0, .int 0, .int 0, .int 0, .int 0, .int 0, .int 0, .int 0, .int 0, .int 0, .int 0, .int 0]))) (o + 438) z0 z0 z0 z0 z0 0 0 0 (-5) (-5) 0 0 0 0 0 0 0 0 0 q = M0 q := fun q hq M0 => (md_n (by omega)).trans (va_up_ne _ _ (by omega))
  refine V.eqA (nc' := 444) (ns' := 12658) (n' := o + 444) rfl rfl rfl rfl ?_
  refine V.wid (nc' := 444 + 61 * 0) (ns' := 12800 + 244 * 0) (by decide) (by decide) ?_
  exact law_loop g0 hs hL hend L 0 _ _ A0 (by omega) (by decide) (XR0 ((hfr _ (by omega) _).trans ((va_up_ne _ _ (by omega)).trans (hd_0 (by decide)))) ((hfr _ (by omega) _).trans up_s) (fun j h0 h1 h2 => (hfr _ (by omega) _).trans ((va_up_ne _ _ (by omega)).trans (hd_i h1 h0))) (Nat.le_refl _)) (MDp.of (A := A0))
