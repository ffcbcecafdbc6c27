/-! THE LAW: its two objects are made; its turns -/
theorem act2n {A : AS} {g : Int × (Int → Int)} (h : g.1 < 0) : (actA A g).2 = A := by unfold actA; rw [if_pos h]
theorem act2p {A : AS} {g : Int × (Int → Int)} (h : ¬ g.1 < 0) : (actA A g).2 = recA A g.2 := by unfold actA; rw [if_neg h]
theorem act21 {A : AS} {g : Int × (Int → Int)} (h : g.1 < 0 → g.2 = A.1) : (actA A g).2.1 = g.2 := by
  by_cases q : g.1 < 0
  · rw [act2n q]; exact (h q).symm
  · rw [act2p q]; rfl
/-- an object stands new at o, all else as it was -/
def OB (E : Ev) (M : Mem) (o : Nat) (M1 : Mem) : Prop := M1 o = .inr (6, [.ref (o + 1), .ref (o + 187), .int 0, .ref (o + 63), .ref (o + 125), .int 0, .ref (o + 436), .int 0, .int 0]) ∧ M1 (o + 187) = ra E 3 4 (hrF (ad0 o)) ∧ (∀ j, 0 < j → j < 438 → j ≠ 187 → M1 (o + j) = cX E o 4 j) ∧ ∀ q, (q < o ∨ o + 438 ≤ q) → M1 q = M q
theorem made_o {E : Ev} {M : Mem} {o : Nat} {d0 : va_E} : OB E M o (va_up (ov (va_up M o d0) o 438 (hdC (.inr (6, [.ref (o + 1), .ref (o + 187), .int 0, .ref (o + 63), .ref (o + 125), .int 0, .ref (o + 436), .int 0, .int 0])) (cX E o 4))) (o + 187) (ra E 3 4 (hrF (ad0 o)))) :=
  ⟨(va_up_ne _ _ (by omega)).trans (hd_0 (by decide)), up_s, fun j h0 h1 h2 => (va_up_ne _ _ (by omega)).trans (hd_i h1 h0), fun q hq => (va_up_ne _ _ (by omega)).trans ((ov_n hq).trans (va_up_ne _ _ (by omega)))⟩
theorem V.gen {E : Ev} {X : Cx} {nc ns n pc : Nat} {M : Mem} {lc : List (Option Value)} {st : List Value} {P : Mem → Prop} (h : P M) (k : ∀ M1, P M1 → V E X nc ns n M1 pc lc st) : V E X nc ns n M pc lc st := k M h
theorem OB.xr {E : Ev} {M M1 M2 : Mem} {o n w : Nat} (h : OB E M o M1) (hf : ∀ q, o ≤ q → q < o + 438 → M2 q = M1 q) (hw : o + 438 ≤ w) (hn : w ≤ n) : XR E M2 w n o A0 := XR0 ((hf o (by omega) (by omega)).trans h.1) ((hf _ (by omega) (by omega)).trans h.2.1) (fun j h0 h1 h2 => (hf _ (by omega) (by omega)).trans (h.2.2.1 j h0 h1 h2)) hw hn
theorem d_L_law_0 : Dc code 0 3 3 (.new 15) := ⟨by decide +kernel, rfl⟩
theorem d_L_law_3 : Dc code 3 1 4 .dup := ⟨by decide +kernel, rfl⟩
theorem d_L_law_4 : Dc code 4 3 7 (.invokespecial 76) := ⟨by decide +kernel, rfl⟩
theorem d_L_law_7 : Dc code 7 1 8 (.astore_n 1) := ⟨by decide +kernel, rfl⟩
theorem d_L_law_8 : Dc code 8 3 11 (.new 15) := ⟨by decide +kernel, rfl⟩
theorem d_L_law_11 : Dc code 11 1 12 .dup := ⟨by decide +kernel, rfl⟩
theorem d_L_law_12 : Dc code 12 3 15 (.invokespecial 76) := ⟨by decide +kernel, rfl⟩
theorem d_L_law_15 : Dc code 15 1 16 (.astore_n 2) := ⟨by decide +kernel, rfl⟩
theorem d_L_law_16 : Dc code 16 1 17 (.iconst 0) := ⟨by decide +kernel, rfl⟩
theorem d_L_law_17 : Dc code 17 1 18 (.istore_n 3) := ⟨by decide +kernel, rfl⟩
theorem d_L_law_18 : Dc code 18 1 19 (.iload_n 3) := ⟨by decide +kernel, rfl⟩
theorem d_L_law_19 : Dc code 19 2 21 (.bipush 56) := ⟨by decide +kernel, rfl⟩
theorem d_L_law_21 : Dj code 21 24 293 (.if_icmp .ge) := ⟨272, by decide +kernel, rfl, by decide⟩
theorem d_L_law_24 : Dc code 24 1 25 (.iload_n 3) := ⟨by decide +kernel, rfl⟩
theorem d_L_law_25 : Dc code 25 1 26 (.iconst 2) := ⟨by decide +kernel, rfl⟩
theorem d_L_law_26 : Dj code 26 29 40 (.if_icmp .ge) := ⟨14, by decide +kernel, rfl, by decide⟩
theorem d_L_law_29 : Dc code 29 1 30 (.aload_n 0) := ⟨by decide +kernel, rfl⟩
theorem d_L_law_30 : Dc code 30 1 31 (.iload_n 3) := ⟨by decide +kernel, rfl⟩
theorem d_L_law_31 : Dc code 31 3 34 (.invokestatic 77) := ⟨by decide +kernel, rfl⟩
theorem d_L_law_34 : Dc code 34 2 36 (.bipush (-32)) := ⟨by decide +kernel, rfl⟩
theorem d_L_law_36 : Dc code 36 1 37 .iand := ⟨by decide +kernel, rfl⟩
theorem d_L_law_37 : Dj code 37 40 45 .goto := ⟨8, by decide +kernel, rfl, by decide⟩
theorem d_L_law_40 : Dc code 40 1 41 (.aload_n 0) := ⟨by decide +kernel, rfl⟩
theorem d_L_law_41 : Dc code 41 1 42 (.iload_n 3) := ⟨by decide +kernel, rfl⟩
theorem d_L_law_42 : Dc code 42 3 45 (.invokestatic 77) := ⟨by decide +kernel, rfl⟩
theorem d_L_law_45 : Dc code 45 2 47 (.istore 4) := ⟨by decide +kernel, rfl⟩
theorem d_L_law_47 : Dc code 47 1 48 (.aload_n 1) := ⟨by decide +kernel, rfl⟩
theorem d_L_law_48 : Dc code 48 2 50 (.bipush 10) := ⟨by decide +kernel, rfl⟩
theorem d_L_law_50 : Dc code 50 3 53 (.invokevirtual 14) := ⟨by decide +kernel, rfl⟩
theorem d_L_law_53 : Dc code 53 2 55 (.istore 5) := ⟨by decide +kernel, rfl⟩
theorem d_L_law_55 : Dc code 55 1 56 (.aload_n 1) := ⟨by decide +kernel, rfl⟩
theorem d_L_law_56 : Dc code 56 2 58 (.iload 4) := ⟨by decide +kernel, rfl⟩
theorem d_L_law_58 : Dc code 58 3 61 (.invokestatic 81) := ⟨by decide +kernel, rfl⟩
theorem d_L_law_61 : Dc code 61 2 63 (.istore 6) := ⟨by decide +kernel, rfl⟩
theorem d_L_law_63 : Dc code 63 2 65 (.iload 6) := ⟨by decide +kernel, rfl⟩
theorem d_L_law_65 : Dj code 65 68 89 (.ifCond .ge) := ⟨24, by decide +kernel, rfl, by decide⟩
theorem d_L_law_68 : Dc code 68 1 69 (.aload_n 1) := ⟨by decide +kernel, rfl⟩
theorem d_L_law_69 : Dc code 69 1 70 (.aload_n 2) := ⟨by decide +kernel, rfl⟩
theorem d_L_law_70 : Dc code 70 3 73 (.invokestatic 85) := ⟨by decide +kernel, rfl⟩
theorem d_L_law_73 : Dj code 73 76 87 (.ifCond .eq) := ⟨14, by decide +kernel, rfl, by decide⟩
theorem d_L_law_76 : Dc code 76 1 77 (.aload_n 1) := ⟨by decide +kernel, rfl⟩
theorem d_L_law_77 : Dc code 77 2 79 (.bipush 10) := ⟨by decide +kernel, rfl⟩
theorem d_L_law_79 : Dc code 79 3 82 (.invokevirtual 14) := ⟨by decide +kernel, rfl⟩
theorem d_L_law_82 : Dc code 82 2 84 (.iload 5) := ⟨by decide +kernel, rfl⟩
theorem d_L_law_84 : Dj code 84 87 89 (.if_icmp .eq) := ⟨5, by decide +kernel, rfl, by decide⟩
theorem d_L_law_87 : Dc code 87 1 88 (.iconst 0) := ⟨by decide +kernel, rfl⟩
theorem d_L_law_88 : decode code 88 = .ok (.ireturn, 1) := by decide +kernel
theorem d_L_law_89 : Dc code 89 2 91 (.iload 6) := ⟨by decide +kernel, rfl⟩
theorem d_L_law_91 : Dj code 91 94 148 (.ifCond .lt) := ⟨57, by decide +kernel, rfl, by decide⟩
theorem d_L_law_94 : Dc code 94 2 96 (.iload 4) := ⟨by decide +kernel, rfl⟩
theorem d_L_law_96 : Dc code 96 2 98 (.bipush 9) := ⟨by decide +kernel, rfl⟩
theorem d_L_law_98 : Dc code 98 1 99 .ishr := ⟨by decide +kernel, rfl⟩
theorem d_L_law_99 : Dc code 99 1 100 (.iconst 1) := ⟨by decide +kernel, rfl⟩
theorem d_L_law_100 : Dc code 100 1 101 .iand := ⟨by decide +kernel, rfl⟩
theorem d_L_law_101 : Dj code 101 104 148 (.ifCond .ne) := ⟨47, by decide +kernel, rfl, by decide⟩
theorem d_L_law_104 : Dc code 104 1 105 (.aload_n 1) := ⟨by decide +kernel, rfl⟩
theorem d_L_law_105 : Dc code 105 3 108 (.invokevirtual 73) := ⟨by decide +kernel, rfl⟩
theorem d_L_law_108 : Dc code 108 2 110 (.istore 7) := ⟨by decide +kernel, rfl⟩
theorem d_L_law_110 : Dc code 110 2 112 (.iload 7) := ⟨by decide +kernel, rfl⟩
theorem d_L_law_112 : Dc code 112 2 114 (.iload 5) := ⟨by decide +kernel, rfl⟩
theorem d_L_law_114 : Dc code 114 1 115 (.iconst 4) := ⟨by decide +kernel, rfl⟩
theorem d_L_law_115 : Dj code 115 118 122 (.if_icmp .ne) := ⟨7, by decide +kernel, rfl, by decide⟩
theorem d_L_law_118 : Dc code 118 1 119 (.iconst 3) := ⟨by decide +kernel, rfl⟩
theorem d_L_law_119 : Dj code 119 122 124 .goto := ⟨5, by decide +kernel, rfl, by decide⟩
theorem d_L_law_122 : Dc code 122 2 124 (.iload 5) := ⟨by decide +kernel, rfl⟩
theorem d_L_law_124 : Dj code 124 127 146 (.if_icmp .ne) := ⟨22, by decide +kernel, rfl, by decide⟩
theorem d_L_law_127 : Dc code 127 1 128 (.aload_n 1) := ⟨by decide +kernel, rfl⟩
theorem d_L_law_128 : Dc code 128 1 129 (.aload_n 2) := ⟨by decide +kernel, rfl⟩
theorem d_L_law_129 : Dc code 129 3 132 (.invokestatic 85) := ⟨by decide +kernel, rfl⟩
theorem d_L_law_132 : Dj code 132 135 146 (.ifCond .eq) := ⟨14, by decide +kernel, rfl, by decide⟩
theorem d_L_law_135 : Dc code 135 1 136 (.aload_n 1) := ⟨by decide +kernel, rfl⟩
theorem d_L_law_136 : Dc code 136 2 138 (.iload 4) := ⟨by decide +kernel, rfl⟩
theorem d_L_law_138 : Dc code 138 3 141 (.invokestatic 81) := ⟨by decide +kernel, rfl⟩
theorem d_L_law_141 : Dc code 141 2 143 (.iload 6) := ⟨by decide +kernel, rfl⟩
theorem d_L_law_143 : Dj code 143 146 148 (.if_icmp .eq) := ⟨5, by decide +kernel, rfl, by decide⟩
theorem d_L_law_146 : Dc code 146 1 147 (.iconst 0) := ⟨by decide +kernel, rfl⟩
theorem d_L_law_147 : decode code 147 = .ok (.ireturn, 1) := by decide +kernel
theorem d_L_law_148 : Dc code 148 1 149 (.aload_n 2) := ⟨by decide +kernel, rfl⟩
theorem d_L_law_149 : Dc code 149 2 151 (.iload 4) := ⟨by decide +kernel, rfl⟩
theorem d_L_law_151 : Dc code 151 3 154 (.invokestatic 81) := ⟨by decide +kernel, rfl⟩
theorem d_L_law_154 : Dc code 154 2 156 (.iload 6) := ⟨by decide +kernel, rfl⟩
theorem d_L_law_156 : Dj code 156 159 181 (.if_icmp .ne) := ⟨25, by decide +kernel, rfl, by decide⟩
theorem d_L_law_159 : Dc code 159 1 160 (.aload_n 1) := ⟨by decide +kernel, rfl⟩
theorem d_L_law_160 : Dc code 160 1 161 (.aload_n 2) := ⟨by decide +kernel, rfl⟩
theorem d_L_law_161 : Dc code 161 3 164 (.invokestatic 85) := ⟨by decide +kernel, rfl⟩
theorem d_L_law_164 : Dj code 164 167 181 (.ifCond .eq) := ⟨17, by decide +kernel, rfl, by decide⟩
theorem d_L_law_167 : Dc code 167 1 168 (.iload_n 3) := ⟨by decide +kernel, rfl⟩
theorem d_L_law_168 : Dc code 168 1 169 (.iconst 4) := ⟨by decide +kernel, rfl⟩
theorem d_L_law_169 : Dc code 169 1 170 .irem := ⟨by decide +kernel, rfl⟩
theorem d_L_law_170 : Dc code 170 1 171 (.iconst 3) := ⟨by decide +kernel, rfl⟩
theorem d_L_law_171 : Dj code 171 174 183 (.if_icmp .ne) := ⟨12, by decide +kernel, rfl, by decide⟩
theorem d_L_law_174 : Dc code 174 1 175 (.aload_n 1) := ⟨by decide +kernel, rfl⟩
theorem d_L_law_175 : Dc code 175 3 178 (.invokestatic 89) := ⟨by decide +kernel, rfl⟩
theorem d_L_law_178 : Dj code 178 181 183 (.ifCond .ne) := ⟨5, by decide +kernel, rfl, by decide⟩
theorem d_L_law_181 : Dc code 181 1 182 (.iconst 0) := ⟨by decide +kernel, rfl⟩
theorem d_L_law_182 : decode code 182 = .ok (.ireturn, 1) := by decide +kernel
theorem d_L_law_183 : Dc code 183 1 184 (.aload_n 1) := ⟨by decide +kernel, rfl⟩
theorem d_L_law_184 : Dc code 184 1 185 (.iconst 1) := ⟨by decide +kernel, rfl⟩
theorem d_L_law_185 : Dc code 185 3 188 (.invokevirtual 14) := ⟨by decide +kernel, rfl⟩
theorem d_L_law_188 : Dj code 188 191 195 (.ifCond .ne) := ⟨7, by decide +kernel, rfl, by decide⟩
theorem d_L_law_191 : Dc code 191 1 192 (.iconst (-1)) := ⟨by decide +kernel, rfl⟩
theorem d_L_law_192 : Dj code 192 195 208 .goto := ⟨16, by decide +kernel, rfl, by decide⟩
theorem d_L_law_195 : Dc code 195 2 197 (.iload 4) := ⟨by decide +kernel, rfl⟩
theorem d_L_law_197 : Dc code 197 2 199 (.bipush 6) := ⟨by decide +kernel, rfl⟩
theorem d_L_law_199 : Dc code 199 1 200 .ishr := ⟨by decide +kernel, rfl⟩
theorem d_L_law_200 : Dc code 200 1 201 (.aload_n 1) := ⟨by decide +kernel, rfl⟩
theorem d_L_law_201 : Dc code 201 1 202 (.iconst 1) := ⟨by decide +kernel, rfl⟩
theorem d_L_law_202 : Dc code 202 3 205 (.invokevirtual 14) := ⟨by decide +kernel, rfl⟩
theorem d_L_law_205 : Dc code 205 3 208 (.invokestatic 8) := ⟨by decide +kernel, rfl⟩
theorem d_L_law_208 : Dc code 208 2 210 (.istore 7) := ⟨by decide +kernel, rfl⟩
theorem d_L_law_210 : Dc code 210 1 211 (.iload_n 3) := ⟨by decide +kernel, rfl⟩
theorem d_L_law_211 : Dc code 211 1 212 (.iconst 3) := ⟨by decide +kernel, rfl⟩
theorem d_L_law_212 : Dc code 212 1 213 .irem := ⟨by decide +kernel, rfl⟩
theorem d_L_law_213 : Dc code 213 1 214 (.iconst 2) := ⟨by decide +kernel, rfl⟩
theorem d_L_law_214 : Dj code 214 217 287 (.if_icmp .ne) := ⟨73, by decide +kernel, rfl, by decide⟩
theorem d_L_law_217 : Dc code 217 2 219 (.iload 7) := ⟨by decide +kernel, rfl⟩
theorem d_L_law_219 : Dj code 219 222 287 (.ifCond .lt) := ⟨68, by decide +kernel, rfl, by decide⟩
theorem d_L_law_222 : Dc code 222 1 223 (.aload_n 1) := ⟨by decide +kernel, rfl⟩
theorem d_L_law_223 : Dc code 223 2 225 (.iload 7) := ⟨by decide +kernel, rfl⟩
theorem d_L_law_225 : Dc code 225 3 228 (.invokestatic 93) := ⟨by decide +kernel, rfl⟩
theorem d_L_law_228 : Dj code 228 231 285 (.ifCond .eq) := ⟨57, by decide +kernel, rfl, by decide⟩
theorem d_L_law_231 : Dc code 231 1 232 (.aload_n 1) := ⟨by decide +kernel, rfl⟩
theorem d_L_law_232 : Dc code 232 2 234 (.iload 7) := ⟨by decide +kernel, rfl⟩
theorem d_L_law_234 : Dc code 234 3 237 (.invokestatic 97) := ⟨by decide +kernel, rfl⟩
theorem d_L_law_237 : Dj code 237 240 285 (.ifCond .eq) := ⟨48, by decide +kernel, rfl, by decide⟩
theorem d_L_law_240 : Dc code 240 1 241 (.aload_n 1) := ⟨by decide +kernel, rfl⟩
theorem d_L_law_241 : Dc code 241 2 243 (.iload 7) := ⟨by decide +kernel, rfl⟩
theorem d_L_law_243 : Dc code 243 3 246 (.invokestatic 100) := ⟨by decide +kernel, rfl⟩
theorem d_L_law_246 : Dj code 246 249 285 (.ifCond .eq) := ⟨39, by decide +kernel, rfl, by decide⟩
theorem d_L_law_249 : Dc code 249 1 250 (.aload_n 1) := ⟨by decide +kernel, rfl⟩
theorem d_L_law_250 : Dc code 250 2 252 (.iload 7) := ⟨by decide +kernel, rfl⟩
theorem d_L_law_252 : Dc code 252 2 254 (.iload 4) := ⟨by decide +kernel, rfl⟩
theorem d_L_law_254 : Dc code 254 2 256 (.bipush 8) := ⟨by decide +kernel, rfl⟩
theorem d_L_law_256 : Dc code 256 1 257 .ishr := ⟨by decide +kernel, rfl⟩
theorem d_L_law_257 : Dc code 257 2 259 (.bipush 6) := ⟨by decide +kernel, rfl⟩
theorem d_L_law_259 : Dc code 259 3 262 (.invokestatic 8) := ⟨by decide +kernel, rfl⟩
theorem d_L_law_262 : Dc code 262 2 264 (.iload 4) := ⟨by decide +kernel, rfl⟩
theorem d_L_law_264 : Dc code 264 2 266 (.bipush 11) := ⟨by decide +kernel, rfl⟩
theorem d_L_law_266 : Dc code 266 1 267 .ishr := ⟨by decide +kernel, rfl⟩
theorem d_L_law_267 : Dc code 267 1 268 (.iconst 4) := ⟨by decide +kernel, rfl⟩
theorem d_L_law_268 : Dc code 268 3 271 (.invokestatic 8) := ⟨by decide +kernel, rfl⟩
theorem d_L_law_271 : Dc code 271 3 274 (.invokestatic 103) := ⟨by decide +kernel, rfl⟩
theorem d_L_law_274 : Dj code 274 277 285 (.ifCond .eq) := ⟨11, by decide +kernel, rfl, by decide⟩
theorem d_L_law_277 : Dc code 277 1 278 (.aload_n 1) := ⟨by decide +kernel, rfl⟩
theorem d_L_law_278 : Dc code 278 1 279 (.aload_n 2) := ⟨by decide +kernel, rfl⟩
theorem d_L_law_279 : Dc code 279 3 282 (.invokestatic 85) := ⟨by decide +kernel, rfl⟩
theorem d_L_law_282 : Dj code 282 285 287 (.ifCond .ne) := ⟨5, by decide +kernel, rfl, by decide⟩
theorem d_L_law_285 : Dc code 285 1 286 (.iconst 0) := ⟨by decide +kernel, rfl⟩
theorem d_L_law_286 : decode code 286 = .ok (.ireturn, 1) := by decide +kernel
theorem d_L_law_287 : Dc code 287 3 290 (.iinc 3 1) := ⟨by decide +kernel, rfl⟩
theorem d_L_law_290 : Dj code 290 293 18 .goto := ⟨(-272), by decide +kernel, rfl, by decide⟩
theorem d_L_law_293 : Dc code 293 1 294 (.aload_n 1) := ⟨by decide +kernel, rfl⟩
theorem d_L_law_294 : Dc code 294 3 297 (.invokestatic 89) := ⟨by decide +kernel, rfl⟩
theorem d_L_law_297 : decode code 297 = .ok (.ireturn, 1) := by decide +kernel
set_option maxHeartbeats 40000000 in
set_option maxRecDepth 20000 in
theorem law_loop {E : Ev} {X : Cx} {b L o : Nat} {xs : Nat → Int32} (g0 : G0 E X code RL 10 600000 7302250) (hsx : SX E X b L xs) (hL : L ≤ 260) (hend : ∀ (nc ns n : Nat) (M : Mem) (lc : List (Option Value)), nc ≤ 600000 → ns ≤ 7302250 → V E X nc ns n M 297 lc [.int (iI 1)]) : ∀ (f k n : Nat) (M : Mem) (A B : AS), k + f = 56 → XR E M (o + 876) n o A → XR E M (o + 876) n (o + 438) B → B.1 = A.1 → Inv A.1 (k : Int) → V E X (876 + 3 * k) (16450 + 12 * k) n M 18 [some (.ref b), some (.ref o), some (.ref (o + 438)), some (.int (iI (k : Int))), none, none, none, none] [] := by
  intro f
  induction f using Nat.strongRecOn with
  | _ f ih =>
  intro k n M A B hf hX hY hs hI
  have hO : Ok A.1 := hI.1
  have hF := hX.fct
  have hkn := hF.2.1
  have how := hF.2.2.2.2
  refine V.il3 g0 d_L_law_18 ?_
  refine V.bipush g0 d_L_law_19 (by decide) ?_
  refine V.icmpge g0 d_L_law_21 (by omega) (fun c_21 => ?_) (fun c_21 => ?_)
  · skip
    refine V.al1 g0 d_L_law_293 ?_
    refine V.callSp g0 (c_L_areSums hX hI) ky_L_areSums ks_L_areSums lk_L_89 (Nat.le_of_ble_eq_true rfl) ⟨by omega, by omega⟩ rfl rfl (Nat.le_of_ble_eq_true rfl) d_L_law_294 ?_
    exact hend _ _ _ _ _ (by omega) (by omega)
  · skip
    have J1 : ∀ v : Int, V E X (876 + 3 * k) (16450 + 12 * k) n M 45 [some (.ref b), some (.ref o), some (.ref (o + 438)), some (.int (iI (k : Int))), none, none, none, none] [.int (iI v)] := by
      intro v
      refine V.is4 g0 d_L_law_45 ?_
      obtain ⟨fs1, o1, n1⟩ := hX.now
      refine V.al1 g0 d_L_law_47 ?_
      refine V.bipush g0 d_L_law_48 (by decide) ?_
      refine V.callVp g0 (MT.ans (q6_count hX (by decide)) cnt10) ky_X6_count ki_X6_count ks2_X6_count lk_L_14 o1 rfl rfl (Nat.le_of_ble_eq_true rfl) ⟨by omega, by omega⟩ rfl rfl (Nat.le_of_ble_eq_true rfl) d_L_law_50 ?_
      refine V.is5 g0 d_L_law_53 ?_
      refine V.al1 g0 d_L_law_55 ?_
      refine V.il4 g0 d_L_law_56 ?_
      refine V.callS g0 (c_L_act hX (v := v)) ky_L_act ks_L_act lk_L_81 (Nat.le_of_ble_eq_true rfl) ⟨by omega, by omega⟩ rfl rfl (Nat.le_of_ble_eq_true rfl) d_L_law_58 (fun v_58 n_58 M_58 h_58 => ?_)
      obtain ⟨rfl, hn1, hX1, hf1⟩ := h_58
      have hY1 := hY.frn hn1 (fun q hq => hf1 q (by omega) (by omega))
      have hgo := gAct_ok hO v
      have hgr := hgo.1
      have hI2 : Inv (gAct A.1 v).2 ((k : Int) + 1) := by
        by_cases q : (gAct A.1 v).1 < 0
        · rw [hgo.2 q]; exact hI.up (by omega)
        · exact gAct_inv hI (by omega) q
      rw [actA_1]
      refine V.is6 g0 d_L_law_61 ?_
      have J2 : ∀ (n3 : Nat) (M3 : Mem) (A3 : AS) (y7 : Option Value), XR E M3 (o + 876) n3 o A3 → XR E M3 (o + 876) n3 (o + 438) B → A3.1 = (gAct A.1 v).2 → V E X (876 + 3 * k + 1 + 1) (16450 + 12 * k + 4 + 4) n3 M3 148 [some (.ref b), some (.ref o), some (.ref (o + 438)), some (.int (iI (k : Int))), some (.int (iI v)), some (.int (iI A.2.2.1)), some (.int (iI (gAct A.1 v).1)), y7] [] := by
        intro n3 M3 A3 y7 hX3 hY3 hA3
        refine V.al2 g0 d_L_law_148 ?_
        refine V.il4 g0 d_L_law_149 ?_
        refine V.callS g0 (c_L_act hY3 (v := v)) ky_L_act ks_L_act lk_L_81 (Nat.le_of_ble_eq_true rfl) ⟨by omega, by omega⟩ rfl rfl (Nat.le_of_ble_eq_true rfl) d_L_law_151 (fun v_151 n_151 M_151 h_151 => ?_)
        obtain ⟨rfl, hn4, hY4, hf4⟩ := h_151
        have how3 := hX3.fct.2.2.2.2
        have hX4 := hX3.frn hn4 (fun q hq => hf4 q (by omega) (by omega))
        rw [hs] at hY4
        rw [actA_1, hs]
        have hB4 : (actA B (gAct A.1 v)).2.1 = (gAct A.1 v).2 := act21 (fun q => (hgo.2 q).trans hs.symm)
        generalize (actA B (gAct A.1 v)).2 = B4 at hY4 hB4
        have hI3 : Inv A3.1 ((k : Int) + 1) := hA3 ▸ hI2
        have hm3 := hI3.1.many
        obtain ⟨fs4, o4, n4⟩ := hX4.now
        refine V.il6 g0 d_L_law_154 ?_
        refine V.sameNe g0 d_L_law_156 ?_
        refine V.al1 g0 d_L_law_159 ?_
        refine V.al2 g0 d_L_law_160 ?_
        refine V.callSp g0 (c_L_areAlike hX4 hY4 (hB4.trans hA3.symm)) ky_L_areAlike ks_L_areAlike lk_L_85 (Nat.le_of_ble_eq_true rfl) ⟨by omega, by omega⟩ rfl rfl (Nat.le_of_ble_eq_true rfl) d_L_law_161 ?_
        refine V.ifeq g0 d_L_law_164 (by omega) (fun c_164 => ?_) (fun c_164 => ?_)
        · skip
          exfalso; omega
        · skip
          refine V.il3 g0 d_L_law_167 ?_
          refine V.iconst g0 d_L_law_168 ?_
          refine V.irem g0 d_L_law_169 (by omega) (by decide) ?_
          refine V.iconst g0 d_L_law_170 ?_
          refine V.icmpne g0 d_L_law_171 (by omega) (fun c_171 => ?_) (fun c_171 => ?_)
          · skip
            refine V.al1 g0 d_L_law_183 ?_
            refine V.iconst g0 d_L_law_184 ?_
            refine V.callVp g0 (MT.ans (q6_count hX4 (by decide)) cnt1) ky_X6_count ki_X6_count ks2_X6_count lk_L_14 o4 rfl rfl (Nat.le_of_ble_eq_true rfl) ⟨by omega, by omega⟩ rfl rfl (Nat.le_of_ble_eq_true rfl) d_L_law_185 ?_
            refine V.ifne g0 d_L_law_188 (by omega) (fun c_188 => ?_) (fun c_188 => ?_)
            · skip
              refine V.il4 g0 d_L_law_195 ?_
              refine V.bipush g0 d_L_law_197 (by decide) ?_
              refine V.ishr g0 d_L_law_199 (shrE v 6) ?_
              refine V.al1 g0 d_L_law_200 ?_
              refine V.iconst g0 d_L_law_201 ?_
              refine V.callVp g0 (MT.ans (q6_count hX4 (by decide)) cnt1) ky_X6_count ki_X6_count ks2_X6_count lk_L_14 o4 rfl rfl (Nat.le_of_ble_eq_true rfl) ⟨by omega, by omega⟩ rfl rfl (Nat.le_of_ble_eq_true rfl) d_L_law_202 ?_
              refine V.callSp g0 (c_L_low (by omega)) ky_L_low ks_L_low lk_L_8 (Nat.le_of_ble_eq_true rfl) ⟨by omega, by omega⟩ rfl rfl (Nat.le_of_ble_eq_true rfl) d_L_law_205 ?_
              have hlb := lowZ_b (z := shrZ v 6) (n := A3.1 619) (by omega)
              obtain ⟨kk, ek⟩ : ∃ kk : Nat, lowZ (shrZ v 6) (A3.1 619) = (kk : Int) := ⟨_, (Int.toNat_of_nonneg hlb.1).symm⟩
              rw [ek] at hlb ⊢
              refine V.is7 g0 d_L_law_208 ?_
              refine V.il3 g0 d_L_law_210 ?_
              refine V.iconst g0 d_L_law_211 ?_
              refine V.irem g0 d_L_law_212 (by omega) (by decide) ?_
              refine V.iconst g0 d_L_law_213 ?_
              refine V.icmpne g0 d_L_law_214 (by omega) (fun c_214 => ?_) (fun c_214 => ?_)
              · skip
                refine V.inc3 g0 d_L_law_287 ?_
                refine V.goto g0 d_L_law_290 ?_
                exact V.weak2 (V.wid (by omega) (by omega) (ih (f - 1) (by omega) (k + 1) _ _ _ _ (by omega) hX4 hY4 (hB4.trans hA3.symm) (show Inv A3.1 ((k + 1 : Nat) : Int) from hI3))) (lcLe_s (lcLe_s (lcLe_s (lcLe_s (lcLe_f (lcLe_f (lcLe_f (lcLe_f lcLe_n))))))))
              · skip
                refine V.il7 g0 d_L_law_217 ?_
                refine V.iflt g0 d_L_law_219 (by omega) (fun c_219 => ?_) (fun c_219 => ?_)
                · skip
                  exfalso; omega
                · skip
                  refine V.al1 g0 d_L_law_222 ?_
                  refine V.il7 g0 d_L_law_223 ?_
                  refine V.callSp g0 (c_L_isBookSo hX4 hI3 (by omega) hlb.2) ky_L_isBookSo ks_L_isBookSo lk_L_93 (Nat.le_of_ble_eq_true rfl) ⟨by omega, by omega⟩ rfl rfl (Nat.le_of_ble_eq_true rfl) d_L_law_225 ?_
                  refine V.ifeq g0 d_L_law_228 (by omega) (fun c_228 => ?_) (fun c_228 => ?_)
                  · skip
                    exfalso; omega
                  · skip
                    refine V.al1 g0 d_L_law_231 ?_
                    refine V.il7 g0 d_L_law_232 ?_
                    refine V.callS2p g0 (c_L_areStaysSo hX4 hI3 (by omega) hlb.2) ky_L_areStaysSo ks_L_areStaysSo lk_L_97 (Nat.le_of_ble_eq_true rfl) ⟨by omega, by omega⟩ rfl rfl (Nat.le_of_ble_eq_true rfl) d_L_law_234 ?_
                    refine V.ifeq g0 d_L_law_237 (by omega) (fun c_237 => ?_) (fun c_237 => ?_)
                    · skip
                      exfalso; omega
                    · skip
                      refine V.al1 g0 d_L_law_240 ?_
                      refine V.il7 g0 d_L_law_241 ?_
                      refine V.callSp g0 (c_L_areWaysSo hX4 hI3 (by omega) hlb.2) ky_L_areWaysSo ks_L_areWaysSo lk_L_100 (Nat.le_of_ble_eq_true rfl) ⟨by omega, by omega⟩ rfl rfl (Nat.le_of_ble_eq_true rfl) d_L_law_243 ?_
                      refine V.ifeq g0 d_L_law_246 (by omega) (fun c_246 => ?_) (fun c_246 => ?_)
                      · skip
                        exfalso; omega
                      · skip
                        refine V.al1 g0 d_L_law_249 ?_
                        refine V.il7 g0 d_L_law_250 ?_
                        refine V.il4 g0 d_L_law_252 ?_
                        refine V.bipush g0 d_L_law_254 (by decide) ?_
                        refine V.ishr g0 d_L_law_256 (shrE v 8) ?_
                        refine V.bipush g0 d_L_law_257 (by decide) ?_
                        refine V.callSp g0 (c_L_low (by decide)) ky_L_low ks_L_low lk_L_8 (Nat.le_of_ble_eq_true rfl) ⟨by omega, by omega⟩ rfl rfl (Nat.le_of_ble_eq_true rfl) d_L_law_259 ?_
                        have hlc := lowZ_b (z := shrZ v 8) (n := 6) (by decide)
                        refine V.il4 g0 d_L_law_262 ?_
                        refine V.bipush g0 d_L_law_264 (by decide) ?_
                        refine V.ishr g0 d_L_law_266 (shrE v 11) ?_
                        refine V.iconst g0 d_L_law_267 ?_
                        refine V.callSp g0 (c_L_low (by decide)) ky_L_low ks_L_low lk_L_8 (Nat.le_of_ble_eq_true rfl) ⟨by omega, by omega⟩ rfl rfl (Nat.le_of_ble_eq_true rfl) d_L_law_268 ?_
                        have hlf := lowZ_b (z := shrZ v 11) (n := 4) (by decide)
                        refine V.callS g0 (c_L_isCrossedSo hX4 hI3 (by omega) hlb.2 hlc (f := lowZ (shrZ v 11) 4) (by omega)) ky_L_isCrossedSo ks_L_isCrossedSo lk_L_103 (Nat.le_of_ble_eq_true rfl) ⟨by omega, by omega⟩ rfl rfl (Nat.le_of_ble_eq_true rfl) d_L_law_271 (fun v_271 n_271 M_271 h_271 => ?_)
                        obtain ⟨rfl, hn5, ⟨A5, hA5, hX5⟩, hf5⟩ := h_271
                        have hY5 := hY4.frn hn5 (fun q hq => hf5 q (by omega) (by omega))
                        refine V.ifeq g0 d_L_law_274 (by omega) (fun c_274 => ?_) (fun c_274 => ?_)
                        · skip
                          exfalso; omega
                        · skip
                          refine V.al1 g0 d_L_law_277 ?_
                          refine V.al2 g0 d_L_law_278 ?_
                          refine V.callSp g0 (c_L_areAlike hX5 hY5 (hB4.trans (hA3.symm.trans hA5.symm))) ky_L_areAlike ks_L_areAlike lk_L_85 (Nat.le_of_ble_eq_true rfl) ⟨by omega, by omega⟩ rfl rfl (Nat.le_of_ble_eq_true rfl) d_L_law_279 ?_
                          refine V.ifne g0 d_L_law_282 (by omega) (fun c_282 => ?_) (fun c_282 => ?_)
                          · skip
                            refine V.inc3 g0 d_L_law_287 ?_
                            refine V.goto g0 d_L_law_290 ?_
                            exact V.weak2 (V.wid (by omega) (by omega) (ih (f - 1) (by omega) (k + 1) _ _ _ _ (by omega) hX5 hY5 (hB4.trans (hA3.symm.trans hA5.symm)) (show Inv A5.1 ((k + 1 : Nat) : Int) from hA5 ▸ hI3))) (lcLe_s (lcLe_s (lcLe_s (lcLe_s (lcLe_f (lcLe_f (lcLe_f (lcLe_f lcLe_n))))))))
                          · skip
                            exfalso; omega
            · skip
              refine V.iconst g0 d_L_law_191 ?_
              refine V.goto g0 d_L_law_192 ?_
              refine V.is7 g0 d_L_law_208 ?_
              refine V.il3 g0 d_L_law_210 ?_
              refine V.iconst g0 d_L_law_211 ?_
              refine V.irem g0 d_L_law_212 (by omega) (by decide) ?_
              refine V.iconst g0 d_L_law_213 ?_
              refine V.icmpne g0 d_L_law_214 (by omega) (fun c_214 => ?_) (fun c_214 => ?_)
              · skip
                refine V.inc3 g0 d_L_law_287 ?_
                refine V.goto g0 d_L_law_290 ?_
                exact V.weak2 (V.wid (by omega) (by omega) (ih (f - 1) (by omega) (k + 1) _ _ _ _ (by omega) hX4 hY4 (hB4.trans hA3.symm) (show Inv A3.1 ((k + 1 : Nat) : Int) from hI3))) (lcLe_s (lcLe_s (lcLe_s (lcLe_s (lcLe_f (lcLe_f (lcLe_f (lcLe_f lcLe_n))))))))
              · skip
                refine V.il7 g0 d_L_law_217 ?_
                refine V.iflt g0 d_L_law_219 (by omega) (fun c_219 => ?_) (fun c_219 => ?_)
                · skip
                  refine V.inc3 g0 d_L_law_287 ?_
                  refine V.goto g0 d_L_law_290 ?_
                  exact V.weak2 (V.wid (by omega) (by omega) (ih (f - 1) (by omega) (k + 1) _ _ _ _ (by omega) hX4 hY4 (hB4.trans hA3.symm) (show Inv A3.1 ((k + 1 : Nat) : Int) from hI3))) (lcLe_s (lcLe_s (lcLe_s (lcLe_s (lcLe_f (lcLe_f (lcLe_f (lcLe_f lcLe_n))))))))
                · skip
                  exfalso; omega
          · skip
            refine V.al1 g0 d_L_law_174 ?_
            refine V.callSp g0 (c_L_areSums hX4 hI3) ky_L_areSums ks_L_areSums lk_L_89 (Nat.le_of_ble_eq_true rfl) ⟨by omega, by omega⟩ rfl rfl (Nat.le_of_ble_eq_true rfl) d_L_law_175 ?_
            refine V.ifne g0 d_L_law_178 (by omega) (fun c_178 => ?_) (fun c_178 => ?_)
            · skip
              refine V.al1 g0 d_L_law_183 ?_
              refine V.iconst g0 d_L_law_184 ?_
              refine V.callVp g0 (MT.ans (q6_count hX4 (by decide)) cnt1) ky_X6_count ki_X6_count ks2_X6_count lk_L_14 o4 rfl rfl (Nat.le_of_ble_eq_true rfl) ⟨by omega, by omega⟩ rfl rfl (Nat.le_of_ble_eq_true rfl) d_L_law_185 ?_
              refine V.ifne g0 d_L_law_188 (by omega) (fun c_188 => ?_) (fun c_188 => ?_)
              · skip
                refine V.il4 g0 d_L_law_195 ?_
                refine V.bipush g0 d_L_law_197 (by decide) ?_
                refine V.ishr g0 d_L_law_199 (shrE v 6) ?_
                refine V.al1 g0 d_L_law_200 ?_
                refine V.iconst g0 d_L_law_201 ?_
                refine V.callVp g0 (MT.ans (q6_count hX4 (by decide)) cnt1) ky_X6_count ki_X6_count ks2_X6_count lk_L_14 o4 rfl rfl (Nat.le_of_ble_eq_true rfl) ⟨by omega, by omega⟩ rfl rfl (Nat.le_of_ble_eq_true rfl) d_L_law_202 ?_
                refine V.callSp g0 (c_L_low (by omega)) ky_L_low ks_L_low lk_L_8 (Nat.le_of_ble_eq_true rfl) ⟨by omega, by omega⟩ rfl rfl (Nat.le_of_ble_eq_true rfl) d_L_law_205 ?_
                have hlb := lowZ_b (z := shrZ v 6) (n := A3.1 619) (by omega)
                obtain ⟨kk, ek⟩ : ∃ kk : Nat, lowZ (shrZ v 6) (A3.1 619) = (kk : Int) := ⟨_, (Int.toNat_of_nonneg hlb.1).symm⟩
                rw [ek] at hlb ⊢
                refine V.is7 g0 d_L_law_208 ?_
                refine V.il3 g0 d_L_law_210 ?_
                refine V.iconst g0 d_L_law_211 ?_
                refine V.irem g0 d_L_law_212 (by omega) (by decide) ?_
                refine V.iconst g0 d_L_law_213 ?_
                refine V.icmpne g0 d_L_law_214 (by omega) (fun c_214 => ?_) (fun c_214 => ?_)
                · skip
                  refine V.inc3 g0 d_L_law_287 ?_
                  refine V.goto g0 d_L_law_290 ?_
                  exact V.weak2 (V.wid (by omega) (by omega) (ih (f - 1) (by omega) (k + 1) _ _ _ _ (by omega) hX4 hY4 (hB4.trans hA3.symm) (show Inv A3.1 ((k + 1 : Nat) : Int) from hI3))) (lcLe_s (lcLe_s (lcLe_s (lcLe_s (lcLe_f (lcLe_f (lcLe_f (lcLe_f lcLe_n))))))))
                · skip
                  refine V.il7 g0 d_L_law_217 ?_
                  refine V.iflt g0 d_L_law_219 (by omega) (fun c_219 => ?_) (fun c_219 => ?_)
                  · skip
                    exfalso; omega
                  · skip
                    refine V.al1 g0 d_L_law_222 ?_
                    refine V.il7 g0 d_L_law_223 ?_
                    refine V.callSp g0 (c_L_isBookSo hX4 hI3 (by omega) hlb.2) ky_L_isBookSo ks_L_isBookSo lk_L_93 (Nat.le_of_ble_eq_true rfl) ⟨by omega, by omega⟩ rfl rfl (Nat.le_of_ble_eq_true rfl) d_L_law_225 ?_
                    refine V.ifeq g0 d_L_law_228 (by omega) (fun c_228 => ?_) (fun c_228 => ?_)
                    · skip
                      exfalso; omega
                    · skip
                      refine V.al1 g0 d_L_law_231 ?_
                      refine V.il7 g0 d_L_law_232 ?_
                      refine V.callS2p g0 (c_L_areStaysSo hX4 hI3 (by omega) hlb.2) ky_L_areStaysSo ks_L_areStaysSo lk_L_97 (Nat.le_of_ble_eq_true rfl) ⟨by omega, by omega⟩ rfl rfl (Nat.le_of_ble_eq_true rfl) d_L_law_234 ?_
                      refine V.ifeq g0 d_L_law_237 (by omega) (fun c_237 => ?_) (fun c_237 => ?_)
                      · skip
                        exfalso; omega
                      · skip
                        refine V.al1 g0 d_L_law_240 ?_
                        refine V.il7 g0 d_L_law_241 ?_
                        refine V.callSp g0 (c_L_areWaysSo hX4 hI3 (by omega) hlb.2) ky_L_areWaysSo ks_L_areWaysSo lk_L_100 (Nat.le_of_ble_eq_true rfl) ⟨by omega, by omega⟩ rfl rfl (Nat.le_of_ble_eq_true rfl) d_L_law_243 ?_
                        refine V.ifeq g0 d_L_law_246 (by omega) (fun c_246 => ?_) (fun c_246 => ?_)
                        · skip
                          exfalso; omega
                        · skip
                          refine V.al1 g0 d_L_law_249 ?_
                          refine V.il7 g0 d_L_law_250 ?_
                          refine V.il4 g0 d_L_law_252 ?_
                          refine V.bipush g0 d_L_law_254 (by decide) ?_
                          refine V.ishr g0 d_L_law_256 (shrE v 8) ?_
                          refine V.bipush g0 d_L_law_257 (by decide) ?_
                          refine V.callSp g0 (c_L_low (by decide)) ky_L_low ks_L_low lk_L_8 (Nat.le_of_ble_eq_true rfl) ⟨by omega, by omega⟩ rfl rfl (Nat.le_of_ble_eq_true rfl) d_L_law_259 ?_
                          have hlc := lowZ_b (z := shrZ v 8) (n := 6) (by decide)
                          refine V.il4 g0 d_L_law_262 ?_
                          refine V.bipush g0 d_L_law_264 (by decide) ?_
                          refine V.ishr g0 d_L_law_266 (shrE v 11) ?_
                          refine V.iconst g0 d_L_law_267 ?_
                          refine V.callSp g0 (c_L_low (by decide)) ky_L_low ks_L_low lk_L_8 (Nat.le_of_ble_eq_true rfl) ⟨by omega, by omega⟩ rfl rfl (Nat.le_of_ble_eq_true rfl) d_L_law_268 ?_
                          have hlf := lowZ_b (z := shrZ v 11) (n := 4) (by decide)
                          refine V.callS g0 (c_L_isCrossedSo hX4 hI3 (by omega) hlb.2 hlc (f := lowZ (shrZ v 11) 4) (by omega)) ky_L_isCrossedSo ks_L_isCrossedSo lk_L_103 (Nat.le_of_ble_eq_true rfl) ⟨by omega, by omega⟩ rfl rfl (Nat.le_of_ble_eq_true rfl) d_L_law_271 (fun v_271 n_271 M_271 h_271 => ?_)
                          obtain ⟨rfl, hn5, ⟨A5, hA5, hX5⟩, hf5⟩ := h_271
                          have hY5 := hY4.frn hn5 (fun q hq => hf5 q (by omega) (by omega))
                          refine V.ifeq g0 d_L_law_274 (by omega) (fun c_274 => ?_) (fun c_274 => ?_)
                          · skip
                            exfalso; omega
                          · skip
                            refine V.al1 g0 d_L_law_277 ?_
                            refine V.al2 g0 d_L_law_278 ?_
                            refine V.callSp g0 (c_L_areAlike hX5 hY5 (hB4.trans (hA3.symm.trans hA5.symm))) ky_L_areAlike ks_L_areAlike lk_L_85 (Nat.le_of_ble_eq_true rfl) ⟨by omega, by omega⟩ rfl rfl (Nat.le_of_ble_eq_true rfl) d_L_law_279 ?_
                            refine V.ifne g0 d_L_law_282 (by omega) (fun c_282 => ?_) (fun c_282 => ?_)
                            · skip
                              refine V.inc3 g0 d_L_law_287 ?_
                              refine V.goto g0 d_L_law_290 ?_
                              exact V.weak2 (V.wid (by omega) (by omega) (ih (f - 1) (by omega) (k + 1) _ _ _ _ (by omega) hX5 hY5 (hB4.trans (hA3.symm.trans hA5.symm)) (show Inv A5.1 ((k + 1 : Nat) : Int) from hA5 ▸ hI3))) (lcLe_s (lcLe_s (lcLe_s (lcLe_s (lcLe_f (lcLe_f (lcLe_f (lcLe_f lcLe_n))))))))
                            · skip
                              exfalso; omega
              · skip
                refine V.iconst g0 d_L_law_191 ?_
                refine V.goto g0 d_L_law_192 ?_
                refine V.is7 g0 d_L_law_208 ?_
                refine V.il3 g0 d_L_law_210 ?_
                refine V.iconst g0 d_L_law_211 ?_
                refine V.irem g0 d_L_law_212 (by omega) (by decide) ?_
                refine V.iconst g0 d_L_law_213 ?_
                refine V.icmpne g0 d_L_law_214 (by omega) (fun c_214 => ?_) (fun c_214 => ?_)
                · skip
                  refine V.inc3 g0 d_L_law_287 ?_
                  refine V.goto g0 d_L_law_290 ?_
                  exact V.weak2 (V.wid (by omega) (by omega) (ih (f - 1) (by omega) (k + 1) _ _ _ _ (by omega) hX4 hY4 (hB4.trans hA3.symm) (show Inv A3.1 ((k + 1 : Nat) : Int) from hI3))) (lcLe_s (lcLe_s (lcLe_s (lcLe_s (lcLe_f (lcLe_f (lcLe_f (lcLe_f lcLe_n))))))))
                · skip
                  refine V.il7 g0 d_L_law_217 ?_
                  refine V.iflt g0 d_L_law_219 (by omega) (fun c_219 => ?_) (fun c_219 => ?_)
                  · skip
                    refine V.inc3 g0 d_L_law_287 ?_
                    refine V.goto g0 d_L_law_290 ?_
                    exact V.weak2 (V.wid (by omega) (by omega) (ih (f - 1) (by omega) (k + 1) _ _ _ _ (by omega) hX4 hY4 (hB4.trans hA3.symm) (show Inv A3.1 ((k + 1 : Nat) : Int) from hI3))) (lcLe_s (lcLe_s (lcLe_s (lcLe_s (lcLe_f (lcLe_f (lcLe_f (lcLe_f lcLe_n))))))))
                  · skip
                    exfalso; omega
            · skip
              exfalso; omega
      refine V.il6 g0 d_L_law_63 ?_
      refine V.ifge g0 d_L_law_65 hgr (fun c_65 => ?_) (fun c_65 => ?_)
      · skip
        rw [act2p c_65] at hX1
        obtain ⟨fs2, o2, n2⟩ := hX1.now
        refine V.il6 g0 d_L_law_89 ?_
        refine V.iflt g0 d_L_law_91 hgr (fun c_91 => ?_) (fun c_91 => ?_)
        · skip
          exfalso; omega
        · skip
          refine V.il4 g0 d_L_law_94 ?_
          refine V.bipush g0 d_L_law_96 (by decide) ?_
          refine V.ishr g0 d_L_law_98 (shrE v 9) ?_
          refine V.iconst g0 d_L_law_99 ?_
          refine V.iand g0 d_L_law_100 (andE (shrZ v 9) 1) ?_
          refine V.ifne g0 d_L_law_101 (andZ_rg _ _) (fun c_101 => ?_) (fun c_101 => ?_)
          · skip
            exact V.wid (by omega) (by omega) (J2 _ _ _ _ hX1 hY1 rfl)
          · skip
            refine V.al1 g0 d_L_law_104 ?_
            refine V.callV g0 (c_X6_undo hX1) ky_X6_undo ki_X6_undo ks2_X6_undo lk_L_73 o2 rfl rfl (Nat.le_of_ble_eq_true rfl) ⟨by omega, by omega⟩ rfl rfl (Nat.le_of_ble_eq_true rfl) d_L_law_105 (fun v_105 n_105 M_105 h_105 => ?_)
            obtain ⟨rfl, hn2, hX2, hf2⟩ := h_105
            have hY2 := hY1.frn hn2 (fun q hq => hf2 q (by omega) (by omega))
            have hu := undo_rec (A := A) (t := (gAct A.1 v).2) hkn
            rw [hu.1]
            refine V.is7 g0 d_L_law_108 ?_
            refine V.il7 g0 d_L_law_110 ?_
            refine V.il5 g0 d_L_law_112 ?_
            refine V.iconst g0 d_L_law_114 ?_
            refine V.icmpne g0 d_L_law_115 (by omega) (fun c_115 => ?_) (fun c_115 => ?_)
            · skip
              rw [if_neg c_115]
              refine V.il5 g0 d_L_law_122 ?_
              refine V.sameNe g0 d_L_law_124 ?_
              refine V.al1 g0 d_L_law_127 ?_
              refine V.al2 g0 d_L_law_128 ?_
              refine V.callSp g0 (c_L_areAlike hX2 hY2 (hs.trans hu.2.symm)) ky_L_areAlike ks_L_areAlike lk_L_85 (Nat.le_of_ble_eq_true rfl) ⟨by omega, by omega⟩ rfl rfl (Nat.le_of_ble_eq_true rfl) d_L_law_129 ?_
              refine V.ifeq g0 d_L_law_132 (by omega) (fun c_132 => ?_) (fun c_132 => ?_)
              · skip
                exfalso; omega
              · skip
                refine V.al1 g0 d_L_law_135 ?_
                refine V.il4 g0 d_L_law_136 ?_
                refine V.callS g0 (c_L_act hX2 (v := v)) ky_L_act ks_L_act lk_L_81 (Nat.le_of_ble_eq_true rfl) ⟨by omega, by omega⟩ rfl rfl (Nat.le_of_ble_eq_true rfl) d_L_law_138 (fun v_138 n_138 M_138 h_138 => ?_)
                obtain ⟨rfl, hn3, hX3, hf3⟩ := h_138
                have hY3 := hY2.frn hn3 (fun q hq => hf3 q (by omega) (by omega))
                rw [hu.2, act2p c_65] at hX3
                rw [actA_1, hu.2]
                refine V.il6 g0 d_L_law_141 ?_
                refine V.same g0 d_L_law_143 ?_
                exact J2 _ _ _ _ hX3 hY3 rfl
            · skip
              rw [if_pos c_115]
              refine V.iconst g0 d_L_law_118 ?_
              refine V.goto g0 d_L_law_119 ?_
              refine V.sameNe g0 d_L_law_124 ?_
              refine V.al1 g0 d_L_law_127 ?_
              refine V.al2 g0 d_L_law_128 ?_
              refine V.callSp g0 (c_L_areAlike hX2 hY2 (hs.trans hu.2.symm)) ky_L_areAlike ks_L_areAlike lk_L_85 (Nat.le_of_ble_eq_true rfl) ⟨by omega, by omega⟩ rfl rfl (Nat.le_of_ble_eq_true rfl) d_L_law_129 ?_
              refine V.ifeq g0 d_L_law_132 (by omega) (fun c_132 => ?_) (fun c_132 => ?_)
              · skip
                exfalso; omega
              · skip
                refine V.al1 g0 d_L_law_135 ?_
                refine V.il4 g0 d_L_law_136 ?_
                refine V.callS g0 (c_L_act hX2 (v := v)) ky_L_act ks_L_act lk_L_81 (Nat.le_of_ble_eq_true rfl) ⟨by omega, by omega⟩ rfl rfl (Nat.le_of_ble_eq_true rfl) d_L_law_138 (fun v_138 n_138 M_138 h_138 => ?_)
                obtain ⟨rfl, hn3, hX3, hf3⟩ := h_138
                have hY3 := hY2.frn hn3 (fun q hq => hf3 q (by omega) (by omega))
                rw [hu.2, act2p c_65] at hX3
                rw [actA_1, hu.2]
                refine V.il6 g0 d_L_law_141 ?_
                refine V.same g0 d_L_law_143 ?_
                exact J2 _ _ _ _ hX3 hY3 rfl
      · skip
        rw [act2n c_65] at hX1
        obtain ⟨fs2, o2, n2⟩ := hX1.now
        refine V.al1 g0 d_L_law_68 ?_
        refine V.al2 g0 d_L_law_69 ?_
        refine V.callSp g0 (c_L_areAlike hX1 hY1 hs) ky_L_areAlike ks_L_areAlike lk_L_85 (Nat.le_of_ble_eq_true rfl) ⟨by omega, by omega⟩ rfl rfl (Nat.le_of_ble_eq_true rfl) d_L_law_70 ?_
        refine V.ifeq g0 d_L_law_73 (by omega) (fun c_73 => ?_) (fun c_73 => ?_)
        · skip
          exfalso; omega
        · skip
          refine V.al1 g0 d_L_law_76 ?_
          refine V.bipush g0 d_L_law_77 (by decide) ?_
          refine V.callVp g0 (MT.ans (q6_count hX1 (by decide)) cnt10) ky_X6_count ki_X6_count ks2_X6_count lk_L_14 o2 rfl rfl (Nat.le_of_ble_eq_true rfl) ⟨by omega, by omega⟩ rfl rfl (Nat.le_of_ble_eq_true rfl) d_L_law_79 ?_
          refine V.il5 g0 d_L_law_82 ?_
          refine V.same g0 d_L_law_84 ?_
          refine V.il6 g0 d_L_law_89 ?_
          refine V.iflt g0 d_L_law_91 hgr (fun c_91 => ?_) (fun c_91 => ?_)
          · skip
            exact V.wid (by omega) (by omega) (J2 _ _ _ _ hX1 hY1 (hgo.2 c_65).symm)
          · skip
            exfalso; omega
    refine V.il3 g0 d_L_law_24 ?_
    refine V.iconst g0 d_L_law_25 ?_
    refine V.icmpge g0 d_L_law_26 (by omega) (fun c_26 => ?_) (fun c_26 => ?_)
    · skip
      refine V.al0 g0 d_L_law_40 ?_
      refine V.il3 g0 d_L_law_41 ?_
      refine V.callSX g0 hsx (c_L_cell (by omega) (by omega)) ky_L_cell ks_L_cell lk_L_77 (Nat.le_of_ble_eq_true rfl) ⟨by omega, by omega⟩ rfl rfl (Nat.le_of_ble_eq_true rfl) d_L_law_42 ?_
      exact J1 _
    · skip
      refine V.al0 g0 d_L_law_29 ?_
      refine V.il3 g0 d_L_law_30 ?_
      refine V.callSX g0 hsx (c_L_cell (by omega) (by omega)) ky_L_cell ks_L_cell lk_L_77 (Nat.le_of_ble_eq_true rfl) ⟨by omega, by omega⟩ rfl rfl (Nat.le_of_ble_eq_true rfl) d_L_law_31 ?_
      refine V.bipush g0 d_L_law_34 (by decide) ?_
      refine V.iand g0 d_L_law_36 (andE _ _) ?_
      refine V.goto g0 d_L_law_37 ?_
      exact J1 _
set_option maxHeartbeats 40000000 in
set_option maxRecDepth 20000 in
theorem law_all {E : Ev} {X : Cx} {b L o : Nat} {xs : Nat → Int32} (g0 : G0 E X code RL 10 600000 7302250) (hsx : SX E X b L xs) (hL : L ≤ 260) (hend : ∀ (nc ns n : Nat) (M : Mem) (lc : List (Option Value)), nc ≤ 600000 → ns ≤ 7302250 → V E X nc ns n M 297 lc [.int (iI 1)]) {M : Mem} : V E X 0 0 o M 0 [some (.ref b), none, none, none, none, none, none, none] [] := by
  refine V.newo g0 d_L_law_0 nw_L_15 (by omega) (by omega) ?_
  refine V.dup g0 d_L_law_3 rfl ?_
  refine V.callI g0 (c_X6_init rfl up_s) ky_X6_init ki_X6_init rfl lk_L_76 (Nat.le_of_ble_eq_true rfl) ⟨by omega, by omega⟩ rfl rfl (Nat.le_of_ble_eq_true rfl) d_L_law_4 (fun v_4 n_4 M_4 h_4 => ?_)
  obtain ⟨rfl, rfl, rfl⟩ := h_4
  refine V.repR (a := o + 187) (w := 3) (f := gR (o + 188) 62 4) (h := hrF (ad0 (o))) ((hd_i (by decide) (by decide)).trans cX_r) (fun j g1 g2 => if_pos (by omega)) ?_
  refine V.gen (P := OB E M (o)) made_o (fun M1 hm1 => ?_)
  refine V.eqA (nc' := 438) (ns' := 8225) (n' := o + 438) rfl rfl rfl rfl ?_
  refine V.as1 g0 d_L_law_7 ?_
  refine V.newo g0 d_L_law_8 nw_L_15 (by omega) (by omega) ?_
  refine V.dup g0 d_L_law_11 rfl ?_
  refine V.callI g0 (c_X6_init rfl up_s) ky_X6_init ki_X6_init rfl lk_L_76 (Nat.le_of_ble_eq_true rfl) ⟨by omega, by omega⟩ rfl rfl (Nat.le_of_ble_eq_true rfl) d_L_law_12 (fun v_12 n_12 M_12 h_12 => ?_)
  obtain ⟨rfl, rfl, rfl⟩ := h_12
  refine V.repR (a := o + 438 + 187) (w := 3) (f := gR (o + 438 + 188) 62 4) (h := hrF (ad0 (o + 438))) ((hd_i (by decide) (by decide)).trans cX_r) (fun j g1 g2 => if_pos (by omega)) ?_
  refine V.gen (P := OB E M1 (o + 438)) made_o (fun M2 hm2 => ?_)
  refine V.eqA (nc' := 876) (ns' := 16450) (n' := o + 876) rfl rfl rfl rfl ?_
  refine V.as2 g0 d_L_law_15 ?_
  refine V.iconst g0 d_L_law_16 ?_
  refine V.is3 g0 d_L_law_17 ?_
  exact law_loop g0 hsx hL hend 56 0 (o + 876) M2 A0 A0 rfl (hm1.xr (fun q h1 h2 => hm2.2.2.2 q (by omega)) (by omega) (Nat.le_refl _)) (hm2.xr (fun q h1 h2 => rfl) (by omega) (Nat.le_refl _)) rfl z0_inv
