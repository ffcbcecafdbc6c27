def cellZ (xs : Nat → Int32) (L : Nat) (k : Int) : Int := if k < L then sv xs k else 7919 * (k + 7) * (k + 467)
theorem V.eqS1 {E : Ev} {X : Cx} {nc ns n pc : Nat} {M : Mem} {lc : List (Option Value)} {st : List Value} {a b : Int} (h : a = b) (k : V E X nc ns n M pc lc (.int (iI b) :: st)) : V E X nc ns n M pc lc (.int (iI a) :: st) := h ▸ k
theorem d_L_low_0 : Dc cL_low 0 1 1 (.iload_n 0) := ⟨by decide +kernel, rfl⟩
theorem d_L_low_1 : Dc cL_low 1 2 3 (.ldc 7) := ⟨by decide +kernel, rfl⟩
theorem d_L_low_3 : Dc cL_low 3 1 4 .iand := ⟨by decide +kernel, rfl⟩
theorem d_L_low_4 : Dc cL_low 4 1 5 (.iload_n 1) := ⟨by decide +kernel, rfl⟩
theorem d_L_low_5 : Dc cL_low 5 1 6 .irem := ⟨by decide +kernel, rfl⟩
theorem d_L_low_6 : decode cL_low 6 = .ok (.ireturn, 1) := by decide +kernel
set_option maxHeartbeats 4000000 in
set_option maxRecDepth 20000 in
theorem c_L_low {E : Ev} {n : Nat} {M : Mem} {z m : Int} (hm : 0 < m ∧ m < 100000) : MT E yL_low cL_low 2 (some .int) 0 0 0 [.int (iI z), .int (iI m)] n M (PF (some (.int (iI (lowZ z m)))) n M) := by
  refine MT.of (by decide) rfl (Nat.le_of_ble_eq_true rfl) ?_
  intro X g
  have g0 := g.1
  show V E X 0 0 n M 0 [some (.int (iI z)), some (.int (iI m))] []
  refine V.il0 g0 d_L_low_0 ?_
  refine V.ldc1 (v := 2147483647) g0 d_L_low_1 (tb_in (List.mem_of_getElem? (i := 298) (by decide +kernel)) rfl) ?_
  refine V.iand g0 d_L_low_3 (lowE z) ?_
  refine V.il1 g0 d_L_low_4 ?_
  refine V.irem g0 d_L_low_5 (land_b (iI z)) (by omega) ?_
  refine V.iret g d_L_low_6 (Nat.zero_le _) (Nat.zero_le _) ⟨congrArg (fun z => some (Value.int (iI z))) ?_, rfl, rfl⟩
  rfl
theorem d_L_cell_0 : Dc cL_cell 0 1 1 (.iload_n 1) := ⟨by decide +kernel, rfl⟩
theorem d_L_cell_1 : Dc cL_cell 1 1 2 (.aload_n 0) := ⟨by decide +kernel, rfl⟩
theorem d_L_cell_2 : Dc cL_cell 2 1 3 .arraylength := ⟨by decide +kernel, rfl⟩
theorem d_L_cell_3 : Dj cL_cell 3 6 12 (.if_icmp .ge) := ⟨9, by decide +kernel, rfl, by decide⟩
theorem d_L_cell_6 : Dc cL_cell 6 1 7 (.aload_n 0) := ⟨by decide +kernel, rfl⟩
theorem d_L_cell_7 : Dc cL_cell 7 1 8 (.iload_n 1) := ⟨by decide +kernel, rfl⟩
theorem d_L_cell_8 : Dc cL_cell 8 1 9 .iaload := ⟨by decide +kernel, rfl⟩
theorem d_L_cell_9 : Dj cL_cell 9 12 26 .goto := ⟨17, by decide +kernel, rfl, by decide⟩
theorem d_L_cell_12 : Dc cL_cell 12 3 15 (.sipush 7919) := ⟨by decide +kernel, rfl⟩
theorem d_L_cell_15 : Dc cL_cell 15 1 16 (.iload_n 1) := ⟨by decide +kernel, rfl⟩
theorem d_L_cell_16 : Dc cL_cell 16 2 18 (.bipush 7) := ⟨by decide +kernel, rfl⟩
theorem d_L_cell_18 : Dc cL_cell 18 1 19 .iadd := ⟨by decide +kernel, rfl⟩
theorem d_L_cell_19 : Dc cL_cell 19 1 20 .imul := ⟨by decide +kernel, rfl⟩
theorem d_L_cell_20 : Dc cL_cell 20 1 21 (.iload_n 1) := ⟨by decide +kernel, rfl⟩
theorem d_L_cell_21 : Dc cL_cell 21 3 24 (.sipush 467) := ⟨by decide +kernel, rfl⟩
theorem d_L_cell_24 : Dc cL_cell 24 1 25 .iadd := ⟨by decide +kernel, rfl⟩
theorem d_L_cell_25 : Dc cL_cell 25 1 26 .imul := ⟨by decide +kernel, rfl⟩
theorem d_L_cell_26 : decode cL_cell 26 = .ok (.ireturn, 1) := by decide +kernel
set_option maxHeartbeats 4000000 in
set_option maxRecDepth 20000 in
theorem c_L_cell {E : Ev} {n : Nat} {M : Mem} {b L : Nat} {xs : Nat → Int32} {k : Int} (hk : 0 ≤ k ∧ k < 1000) (hL : L < 100000) : MTX E yL_cell cL_cell 2 (some .int) 0 0 0 [.ref b, .int (iI k)] n M b L xs (PF (some (.int (iI (cellZ xs L k)))) n M) := by
  refine MTX.of (by decide) rfl (Nat.le_of_ble_eq_true rfl) ?_
  intro X g hsx
  have g0 := g.1
  show V E X 0 0 n M 0 [some (.ref b), some (.int (iI k))] []
  refine V.il1 g0 d_L_cell_0 ?_
  refine V.al0 g0 d_L_cell_1 ?_
  refine V.slen g0 d_L_cell_2 hsx ?_
  refine V.icmpge g0 d_L_cell_3 (by omega) (fun c_3 => ?_) (fun c_3 => ?_)
  · skip
    refine V.sipush g0 d_L_cell_12 (by decide) ?_
    refine V.il1 g0 d_L_cell_15 ?_
    refine V.bipush g0 d_L_cell_16 (by decide) ?_
    refine V.iadd g0 d_L_cell_18 ?_
    refine V.imul g0 d_L_cell_19 ?_
    refine V.il1 g0 d_L_cell_20 ?_
    refine V.sipush g0 d_L_cell_21 (by decide) ?_
    refine V.iadd g0 d_L_cell_24 ?_
    refine V.imul g0 d_L_cell_25 ?_
    refine V.iret g d_L_cell_26 (Nat.zero_le _) (Nat.zero_le _) ⟨congrArg (fun z => some (Value.int (iI z))) ?_, rfl, rfl⟩
    exact (if_neg c_3).symm
  · skip
    refine V.al0 g0 d_L_cell_6 ?_
    refine V.il1 g0 d_L_cell_7 ?_
    refine V.sld g0 d_L_cell_8 hsx (by omega) hL ?_
    refine V.goto g0 d_L_cell_9 ?_
    refine V.iret g d_L_cell_26 (Nat.zero_le _) (Nat.zero_le _) ⟨congrArg (fun z => some (Value.int (iI z))) ?_, rfl, rfl⟩
    exact (if_pos c_3).symm
theorem d_L_act_0 : Dc cL_act 0 1 1 (.iload_n 1) := ⟨by decide +kernel, rfl⟩
theorem d_L_act_1 : Dc cL_act 1 1 2 (.iconst 5) := ⟨by decide +kernel, rfl⟩
theorem d_L_act_2 : Dc cL_act 2 1 3 .ishr := ⟨by decide +kernel, rfl⟩
theorem d_L_act_3 : Dc cL_act 3 1 4 (.istore_n 2) := ⟨by decide +kernel, rfl⟩
theorem d_L_act_4 : Dc cL_act 4 1 5 (.iload_n 1) := ⟨by decide +kernel, rfl⟩
theorem d_L_act_5 : Dc cL_act 5 2 7 (.bipush 22) := ⟨by decide +kernel, rfl⟩
theorem d_L_act_7 : Dc cL_act 7 1 8 .ishr := ⟨by decide +kernel, rfl⟩
theorem d_L_act_8 : Dc cL_act 8 2 10 (.bipush 7) := ⟨by decide +kernel, rfl⟩
theorem d_L_act_10 : Dc cL_act 10 3 13 (.invokestatic 8) := ⟨by decide +kernel, rfl⟩
theorem d_L_act_13 : Dj cL_act 13 16 20 (.ifCond .le) := ⟨7, by decide +kernel, rfl, by decide⟩
theorem d_L_act_16 : Dc cL_act 16 1 17 (.iconst 1) := ⟨by decide +kernel, rfl⟩
theorem d_L_act_17 : Dj cL_act 17 20 21 .goto := ⟨4, by decide +kernel, rfl, by decide⟩
theorem d_L_act_20 : Dc cL_act 20 1 21 (.iconst 0) := ⟨by decide +kernel, rfl⟩
theorem d_L_act_21 : Dc cL_act 21 1 22 (.istore_n 3) := ⟨by decide +kernel, rfl⟩
theorem d_L_act_22 : Dc cL_act 22 1 23 (.iload_n 1) := ⟨by decide +kernel, rfl⟩
theorem d_L_act_23 : Dc cL_act 23 2 25 (.bipush 32) := ⟨by decide +kernel, rfl⟩
theorem d_L_act_25 : Dc cL_act 25 3 28 (.invokestatic 8) := ⟨by decide +kernel, rfl⟩
theorem d_L_act_28 : Dc cL_act 28 2 30 (.istore 4) := ⟨by decide +kernel, rfl⟩
theorem d_L_act_30 : Dc cL_act 30 1 31 (.aload_n 0) := ⟨by decide +kernel, rfl⟩
theorem d_L_act_31 : Dc cL_act 31 1 32 (.iconst 1) := ⟨by decide +kernel, rfl⟩
theorem d_L_act_32 : Dc cL_act 32 3 35 (.invokevirtual 14) := ⟨by decide +kernel, rfl⟩
theorem d_L_act_35 : Dc cL_act 35 2 37 (.istore 5) := ⟨by decide +kernel, rfl⟩
theorem d_L_act_37 : Dc cL_act 37 1 38 (.iload_n 2) := ⟨by decide +kernel, rfl⟩
theorem d_L_act_38 : Dc cL_act 38 1 39 (.iload_n 3) := ⟨by decide +kernel, rfl⟩
theorem d_L_act_39 : Dj cL_act 39 42 52 (.ifCond .eq) := ⟨13, by decide +kernel, rfl, by decide⟩
theorem d_L_act_42 : Dc cL_act 42 2 44 (.iload 5) := ⟨by decide +kernel, rfl⟩
theorem d_L_act_44 : Dj cL_act 44 47 52 (.ifCond .le) := ⟨8, by decide +kernel, rfl, by decide⟩
theorem d_L_act_47 : Dc cL_act 47 2 49 (.iload 5) := ⟨by decide +kernel, rfl⟩
theorem d_L_act_49 : Dj cL_act 49 52 56 .goto := ⟨7, by decide +kernel, rfl, by decide⟩
theorem d_L_act_52 : Dc cL_act 52 2 54 (.iload 5) := ⟨by decide +kernel, rfl⟩
theorem d_L_act_54 : Dc cL_act 54 1 55 (.iconst 1) := ⟨by decide +kernel, rfl⟩
theorem d_L_act_55 : Dc cL_act 55 1 56 .iadd := ⟨by decide +kernel, rfl⟩
theorem d_L_act_56 : Dc cL_act 56 3 59 (.invokestatic 8) := ⟨by decide +kernel, rfl⟩
theorem d_L_act_59 : Dc cL_act 59 2 61 (.istore 6) := ⟨by decide +kernel, rfl⟩
theorem d_L_act_61 : Dc cL_act 61 1 62 (.iload_n 2) := ⟨by decide +kernel, rfl⟩
theorem d_L_act_62 : Dc cL_act 62 1 63 (.iconst 2) := ⟨by decide +kernel, rfl⟩
theorem d_L_act_63 : Dc cL_act 63 1 64 .ishr := ⟨by decide +kernel, rfl⟩
theorem d_L_act_64 : Dc cL_act 64 1 65 (.iload_n 3) := ⟨by decide +kernel, rfl⟩
theorem d_L_act_65 : Dj cL_act 65 68 73 (.ifCond .eq) := ⟨8, by decide +kernel, rfl, by decide⟩
theorem d_L_act_68 : Dc cL_act 68 2 70 (.bipush 6) := ⟨by decide +kernel, rfl⟩
theorem d_L_act_70 : Dj cL_act 70 73 75 .goto := ⟨5, by decide +kernel, rfl, by decide⟩
theorem d_L_act_73 : Dc cL_act 73 2 75 (.bipush 7) := ⟨by decide +kernel, rfl⟩
theorem d_L_act_75 : Dc cL_act 75 3 78 (.invokestatic 8) := ⟨by decide +kernel, rfl⟩
theorem d_L_act_78 : Dc cL_act 78 2 80 (.istore 7) := ⟨by decide +kernel, rfl⟩
theorem d_L_act_80 : Dc cL_act 80 2 82 (.iload 4) := ⟨by decide +kernel, rfl⟩
theorem d_L_act_82 : Dc cL_act 82 1 83 (.iconst 2) := ⟨by decide +kernel, rfl⟩
theorem d_L_act_83 : Dj cL_act 83 86 93 (.if_icmp .ge) := ⟨10, by decide +kernel, rfl, by decide⟩
theorem d_L_act_86 : Dc cL_act 86 1 87 (.aload_n 0) := ⟨by decide +kernel, rfl⟩
theorem d_L_act_87 : Dc cL_act 87 2 89 (.iload 7) := ⟨by decide +kernel, rfl⟩
theorem d_L_act_89 : Dc cL_act 89 3 92 (.invokevirtual 20) := ⟨by decide +kernel, rfl⟩
theorem d_L_act_92 : decode cL_act 92 = .ok (.ireturn, 1) := by decide +kernel
theorem d_L_act_93 : Dc cL_act 93 2 95 (.iload 4) := ⟨by decide +kernel, rfl⟩
theorem d_L_act_95 : Dc cL_act 95 2 97 (.bipush 10) := ⟨by decide +kernel, rfl⟩
theorem d_L_act_97 : Dj cL_act 97 100 183 (.if_icmp .ge) := ⟨86, by decide +kernel, rfl, by decide⟩
theorem d_L_act_100 : Dc cL_act 100 1 101 (.iload_n 2) := ⟨by decide +kernel, rfl⟩
theorem d_L_act_101 : Dc cL_act 101 1 102 (.iconst 4) := ⟨by decide +kernel, rfl⟩
theorem d_L_act_102 : Dc cL_act 102 1 103 .ishr := ⟨by decide +kernel, rfl⟩
theorem d_L_act_103 : Dc cL_act 103 1 104 (.iload_n 3) := ⟨by decide +kernel, rfl⟩
theorem d_L_act_104 : Dj cL_act 104 107 112 (.ifCond .eq) := ⟨8, by decide +kernel, rfl, by decide⟩
theorem d_L_act_107 : Dc cL_act 107 2 109 (.bipush 60) := ⟨by decide +kernel, rfl⟩
theorem d_L_act_109 : Dj cL_act 109 112 115 .goto := ⟨6, by decide +kernel, rfl, by decide⟩
theorem d_L_act_112 : Dc cL_act 112 3 115 (.sipush 1100) := ⟨by decide +kernel, rfl⟩
theorem d_L_act_115 : Dc cL_act 115 3 118 (.invokestatic 8) := ⟨by decide +kernel, rfl⟩
theorem d_L_act_118 : Dc cL_act 118 2 120 (.istore 8) := ⟨by decide +kernel, rfl⟩
theorem d_L_act_120 : Dc cL_act 120 1 121 (.aload_n 0) := ⟨by decide +kernel, rfl⟩
theorem d_L_act_121 : Dc cL_act 121 2 123 (.iload 6) := ⟨by decide +kernel, rfl⟩
theorem d_L_act_123 : Dc cL_act 123 2 125 (.iload 7) := ⟨by decide +kernel, rfl⟩
theorem d_L_act_125 : Dc cL_act 125 2 127 (.iload 8) := ⟨by decide +kernel, rfl⟩
theorem d_L_act_127 : Dc cL_act 127 1 128 (.iload_n 3) := ⟨by decide +kernel, rfl⟩
theorem d_L_act_128 : Dj cL_act 128 131 146 (.ifCond .eq) := ⟨18, by decide +kernel, rfl, by decide⟩
theorem d_L_act_131 : Dc cL_act 131 2 133 (.iload 8) := ⟨by decide +kernel, rfl⟩
theorem d_L_act_133 : Dc cL_act 133 1 134 (.iload_n 2) := ⟨by decide +kernel, rfl⟩
theorem d_L_act_134 : Dc cL_act 134 2 136 (.bipush 7) := ⟨by decide +kernel, rfl⟩
theorem d_L_act_136 : Dc cL_act 136 1 137 .ishr := ⟨by decide +kernel, rfl⟩
theorem d_L_act_137 : Dc cL_act 137 2 139 (.bipush 30) := ⟨by decide +kernel, rfl⟩
theorem d_L_act_139 : Dc cL_act 139 3 142 (.invokestatic 8) := ⟨by decide +kernel, rfl⟩
theorem d_L_act_142 : Dc cL_act 142 1 143 .iadd := ⟨by decide +kernel, rfl⟩
theorem d_L_act_143 : Dj cL_act 143 146 156 .goto := ⟨13, by decide +kernel, rfl, by decide⟩
theorem d_L_act_146 : Dc cL_act 146 1 147 (.iload_n 2) := ⟨by decide +kernel, rfl⟩
theorem d_L_act_147 : Dc cL_act 147 2 149 (.bipush 7) := ⟨by decide +kernel, rfl⟩
theorem d_L_act_149 : Dc cL_act 149 1 150 .ishr := ⟨by decide +kernel, rfl⟩
theorem d_L_act_150 : Dc cL_act 150 3 153 (.sipush 1100) := ⟨by decide +kernel, rfl⟩
theorem d_L_act_153 : Dc cL_act 153 3 156 (.invokestatic 8) := ⟨by decide +kernel, rfl⟩
theorem d_L_act_156 : Dc cL_act 156 1 157 (.iload_n 2) := ⟨by decide +kernel, rfl⟩
theorem d_L_act_157 : Dc cL_act 157 2 159 (.bipush 9) := ⟨by decide +kernel, rfl⟩
theorem d_L_act_159 : Dc cL_act 159 1 160 .ishr := ⟨by decide +kernel, rfl⟩
theorem d_L_act_160 : Dc cL_act 160 1 161 (.iload_n 2) := ⟨by decide +kernel, rfl⟩
theorem d_L_act_161 : Dc cL_act 161 2 163 (.bipush 12) := ⟨by decide +kernel, rfl⟩
theorem d_L_act_163 : Dc cL_act 163 1 164 .ishr := ⟨by decide +kernel, rfl⟩
theorem d_L_act_164 : Dc cL_act 164 1 165 (.iconst 1) := ⟨by decide +kernel, rfl⟩
theorem d_L_act_165 : Dc cL_act 165 1 166 .iand := ⟨by decide +kernel, rfl⟩
theorem d_L_act_166 : Dj cL_act 166 169 174 (.ifCond .ne) := ⟨8, by decide +kernel, rfl, by decide⟩
theorem d_L_act_169 : Dc cL_act 169 2 171 (.bipush 100) := ⟨by decide +kernel, rfl⟩
theorem d_L_act_171 : Dj cL_act 171 174 176 .goto := ⟨5, by decide +kernel, rfl, by decide⟩
theorem d_L_act_174 : Dc cL_act 174 2 176 (.bipush 7) := ⟨by decide +kernel, rfl⟩
theorem d_L_act_176 : Dc cL_act 176 3 179 (.invokestatic 8) := ⟨by decide +kernel, rfl⟩
theorem d_L_act_179 : Dc cL_act 179 3 182 (.invokevirtual 23) := ⟨by decide +kernel, rfl⟩
theorem d_L_act_182 : decode cL_act 182 = .ok (.ireturn, 1) := by decide +kernel
theorem d_L_act_183 : Dc cL_act 183 2 185 (.iload 4) := ⟨by decide +kernel, rfl⟩
theorem d_L_act_185 : Dc cL_act 185 2 187 (.bipush 22) := ⟨by decide +kernel, rfl⟩
theorem d_L_act_187 : Dj cL_act 187 190 234 (.if_icmp .ge) := ⟨47, by decide +kernel, rfl, by decide⟩
theorem d_L_act_190 : Dc cL_act 190 1 191 (.aload_n 0) := ⟨by decide +kernel, rfl⟩
theorem d_L_act_191 : Dc cL_act 191 2 193 (.iload 6) := ⟨by decide +kernel, rfl⟩
theorem d_L_act_193 : Dc cL_act 193 2 195 (.iload 7) := ⟨by decide +kernel, rfl⟩
theorem d_L_act_195 : Dc cL_act 195 1 196 (.iload_n 2) := ⟨by decide +kernel, rfl⟩
theorem d_L_act_196 : Dc cL_act 196 2 198 (.bipush 6) := ⟨by decide +kernel, rfl⟩
theorem d_L_act_198 : Dc cL_act 198 1 199 .ishr := ⟨by decide +kernel, rfl⟩
theorem d_L_act_199 : Dc cL_act 199 2 201 (.bipush 13) := ⟨by decide +kernel, rfl⟩
theorem d_L_act_201 : Dc cL_act 201 3 204 (.invokestatic 8) := ⟨by decide +kernel, rfl⟩
theorem d_L_act_204 : Dc cL_act 204 1 205 (.iload_n 3) := ⟨by decide +kernel, rfl⟩
theorem d_L_act_205 : Dj cL_act 205 208 212 (.ifCond .eq) := ⟨7, by decide +kernel, rfl, by decide⟩
theorem d_L_act_208 : Dc cL_act 208 1 209 (.iconst 4) := ⟨by decide +kernel, rfl⟩
theorem d_L_act_209 : Dj cL_act 209 212 214 .goto := ⟨5, by decide +kernel, rfl, by decide⟩
theorem d_L_act_212 : Dc cL_act 212 2 214 (.bipush 6) := ⟨by decide +kernel, rfl⟩
theorem d_L_act_214 : Dj cL_act 214 217 229 (.if_icmp .ge) := ⟨15, by decide +kernel, rfl, by decide⟩
theorem d_L_act_217 : Dc cL_act 217 1 218 (.iload_n 2) := ⟨by decide +kernel, rfl⟩
theorem d_L_act_218 : Dc cL_act 218 2 220 (.bipush 6) := ⟨by decide +kernel, rfl⟩
theorem d_L_act_220 : Dc cL_act 220 1 221 .ishr := ⟨by decide +kernel, rfl⟩
theorem d_L_act_221 : Dc cL_act 221 2 223 (.bipush 13) := ⟨by decide +kernel, rfl⟩
theorem d_L_act_223 : Dc cL_act 223 3 226 (.invokestatic 8) := ⟨by decide +kernel, rfl⟩
theorem d_L_act_226 : Dj cL_act 226 229 230 .goto := ⟨4, by decide +kernel, rfl, by decide⟩
theorem d_L_act_229 : Dc cL_act 229 1 230 (.iconst 0) := ⟨by decide +kernel, rfl⟩
theorem d_L_act_230 : Dc cL_act 230 3 233 (.invokevirtual 27) := ⟨by decide +kernel, rfl⟩
theorem d_L_act_233 : decode cL_act 233 = .ok (.ireturn, 1) := by decide +kernel
theorem d_L_act_234 : Dc cL_act 234 2 236 (.iload 4) := ⟨by decide +kernel, rfl⟩
theorem d_L_act_236 : Dc cL_act 236 2 238 (.bipush 24) := ⟨by decide +kernel, rfl⟩
theorem d_L_act_238 : Dj cL_act 238 241 256 (.if_icmp .ge) := ⟨18, by decide +kernel, rfl, by decide⟩
theorem d_L_act_241 : Dc cL_act 241 1 242 (.aload_n 0) := ⟨by decide +kernel, rfl⟩
theorem d_L_act_242 : Dc cL_act 242 2 244 (.iload 7) := ⟨by decide +kernel, rfl⟩
theorem d_L_act_244 : Dc cL_act 244 1 245 (.iload_n 2) := ⟨by decide +kernel, rfl⟩
theorem d_L_act_245 : Dc cL_act 245 1 246 (.iconst 5) := ⟨by decide +kernel, rfl⟩
theorem d_L_act_246 : Dc cL_act 246 1 247 .ishr := ⟨by decide +kernel, rfl⟩
theorem d_L_act_247 : Dc cL_act 247 2 249 (.bipush 6) := ⟨by decide +kernel, rfl⟩
theorem d_L_act_249 : Dc cL_act 249 3 252 (.invokestatic 8) := ⟨by decide +kernel, rfl⟩
theorem d_L_act_252 : Dc cL_act 252 3 255 (.invokevirtual 31) := ⟨by decide +kernel, rfl⟩
theorem d_L_act_255 : decode cL_act 255 = .ok (.ireturn, 1) := by decide +kernel
theorem d_L_act_256 : Dc cL_act 256 2 258 (.iload 4) := ⟨by decide +kernel, rfl⟩
theorem d_L_act_258 : Dc cL_act 258 2 260 (.bipush 24) := ⟨by decide +kernel, rfl⟩
theorem d_L_act_260 : Dj cL_act 260 263 272 (.if_icmp .ne) := ⟨12, by decide +kernel, rfl, by decide⟩
theorem d_L_act_263 : Dc cL_act 263 1 264 (.aload_n 0) := ⟨by decide +kernel, rfl⟩
theorem d_L_act_264 : Dc cL_act 264 2 266 (.iload 6) := ⟨by decide +kernel, rfl⟩
theorem d_L_act_266 : Dc cL_act 266 3 269 (.invokevirtual 34) := ⟨by decide +kernel, rfl⟩
theorem d_L_act_269 : Dj cL_act 269 272 309 .goto := ⟨40, by decide +kernel, rfl, by decide⟩
theorem d_L_act_272 : Dc cL_act 272 2 274 (.iload 4) := ⟨by decide +kernel, rfl⟩
theorem d_L_act_274 : Dc cL_act 274 2 276 (.bipush 25) := ⟨by decide +kernel, rfl⟩
theorem d_L_act_276 : Dj cL_act 276 279 290 (.if_icmp .ne) := ⟨14, by decide +kernel, rfl, by decide⟩
theorem d_L_act_279 : Dc cL_act 279 1 280 (.aload_n 0) := ⟨by decide +kernel, rfl⟩
theorem d_L_act_280 : Dc cL_act 280 2 282 (.iload 6) := ⟨by decide +kernel, rfl⟩
theorem d_L_act_282 : Dc cL_act 282 2 284 (.iload 7) := ⟨by decide +kernel, rfl⟩
theorem d_L_act_284 : Dc cL_act 284 3 287 (.invokevirtual 37) := ⟨by decide +kernel, rfl⟩
theorem d_L_act_287 : Dj cL_act 287 290 309 .goto := ⟨22, by decide +kernel, rfl, by decide⟩
theorem d_L_act_290 : Dc cL_act 290 1 291 (.aload_n 0) := ⟨by decide +kernel, rfl⟩
theorem d_L_act_291 : Dc cL_act 291 1 292 (.iload_n 2) := ⟨by decide +kernel, rfl⟩
theorem d_L_act_292 : Dc cL_act 292 1 293 (.iload_n 3) := ⟨by decide +kernel, rfl⟩
theorem d_L_act_293 : Dj cL_act 293 296 301 (.ifCond .eq) := ⟨8, by decide +kernel, rfl, by decide⟩
theorem d_L_act_296 : Dc cL_act 296 2 298 (.bipush 8) := ⟨by decide +kernel, rfl⟩
theorem d_L_act_298 : Dj cL_act 298 301 303 .goto := ⟨5, by decide +kernel, rfl, by decide⟩
theorem d_L_act_301 : Dc cL_act 301 2 303 (.bipush 120) := ⟨by decide +kernel, rfl⟩
theorem d_L_act_303 : Dc cL_act 303 3 306 (.invokestatic 8) := ⟨by decide +kernel, rfl⟩
theorem d_L_act_306 : Dc cL_act 306 3 309 (.invokevirtual 40) := ⟨by decide +kernel, rfl⟩
theorem d_L_act_309 : decode cL_act 309 = .ok (.ireturn, 1) := by decide +kernel
set_option maxHeartbeats 4000000 in
set_option maxRecDepth 20000 in
theorem c_L_act {E : Ev} {n : Nat} {M : Mem} {w o : Nat} {A : AS} (hX : XR E M w n o A) {v : Int} : MT E yL_act cL_act 9 (some .int) 7 1 4 [.ref o, .int (iI v)] n M ((RX E M w n o (actA A (gAct A.1 v)))) := by
  refine MT.of (by decide) rfl (Nat.le_of_ble_eq_true rfl) ?_
  intro X g
  have g0 := g.1
  show V E X 0 0 n M 0 [some (.ref o), some (.int (iI v)), none, none, none, none, none, none, none] []
  obtain ⟨fs, hXo, hXn⟩ := hX.now
  have hO : Ok A.1 := hXn.ok
  have hm := hO.many
  refine V.il1 g0 d_L_act_0 ?_
  refine V.iconst g0 d_L_act_1 ?_
  refine V.ishr g0 d_L_act_2 (shrE v 5) ?_
  refine V.is2 g0 d_L_act_3 ?_
  refine V.il1 g0 d_L_act_4 ?_
  refine V.bipush g0 d_L_act_5 (by decide) ?_
  refine V.ishr g0 d_L_act_7 (shrE v 22) ?_
  refine V.bipush g0 d_L_act_8 (by decide) ?_
  refine V.callSp g0 (MT.ans (c_L_low (by omega)) rfl) ky_L_low ks_L_low lk_L_8 (Nat.le_of_ble_eq_true rfl) ⟨Nat.zero_le _, Nat.zero_le _⟩ rfl rfl (Nat.le_of_ble_eq_true rfl) d_L_act_10 ?_
  refine V.eqb_ifle (P := isA v) g0 d_L_act_13 d_L_act_16 d_L_act_17 d_L_act_20 (by have := lowZ_b (z := shrZ v 22) (n := 7) (by decide); omega) (show ¬ lowZ (shrZ v 22) 7 ≤ 0 ↔ isA v by unfold isA; omega) ?_
  refine V.is3 g0 d_L_act_21 ?_
  refine V.il1 g0 d_L_act_22 ?_
  refine V.bipush g0 d_L_act_23 (by decide) ?_
  refine V.callSp g0 (MT.ans (c_L_low (by omega)) rfl) ky_L_low ks_L_low lk_L_8 (Nat.le_of_ble_eq_true rfl) ⟨Nat.zero_le _, Nat.zero_le _⟩ rfl rfl (Nat.le_of_ble_eq_true rfl) d_L_act_25 ?_
  refine V.is4 g0 d_L_act_28 ?_
  refine V.al0 g0 d_L_act_30 ?_
  refine V.iconst g0 d_L_act_31 ?_
  refine V.callVp g0 (MT.ans (q6_count hX (by decide)) cnt1) ky_X6_count ki_X6_count ks2_X6_count lk_L_14 hXo rfl rfl (Nat.le_of_ble_eq_true rfl) ⟨Nat.zero_le _, Nat.zero_le _⟩ rfl rfl (Nat.le_of_ble_eq_true rfl) d_L_act_32 ?_
  refine V.is5 g0 d_L_act_35 ?_
  refine V.il2 g0 d_L_act_37 ?_
  refine V.il3 g0 d_L_act_38 ?_
  refine V.ifeqB g0 d_L_act_39 (fun c_39 => ?_) (fun c_39 => ?_)
  · skip
    refine V.il5 g0 d_L_act_52 ?_
    refine V.iconst g0 d_L_act_54 ?_
    refine V.iadd g0 d_L_act_55 ?_
    refine V.callSp g0 (MT.ans (c_L_low (by omega)) (show _ = kA A.1 v from congrArg (lowZ (shrZ v 5)) (if_neg (fun q => c_39 q.1)).symm)) ky_L_low ks_L_low lk_L_8 (Nat.le_of_ble_eq_true rfl) ⟨Nat.zero_le _, Nat.zero_le _⟩ rfl rfl (Nat.le_of_ble_eq_true rfl) d_L_act_56 ?_
    refine V.is6 g0 d_L_act_59 ?_
    refine V.il2 g0 d_L_act_61 ?_
    refine V.iconst g0 d_L_act_62 ?_
    refine V.ishr g0 d_L_act_63 (shrE (shrZ v 5) 2) ?_
    refine V.il3 g0 d_L_act_64 ?_
    refine V.ifeqB g0 d_L_act_65 (fun c_65 => ?_) (fun c_65 => ?_)
    · skip
      refine V.bipush g0 d_L_act_73 (by decide) ?_
      refine V.callSp g0 (MT.ans (c_L_low (by omega)) (show _ = cA v from congrArg (lowZ (shrZ (shrZ v 5) 2)) (if_neg c_39).symm)) ky_L_low ks_L_low lk_L_8 (Nat.le_of_ble_eq_true rfl) ⟨Nat.zero_le _, Nat.zero_le _⟩ rfl rfl (Nat.le_of_ble_eq_true rfl) d_L_act_75 ?_
      refine V.is7 g0 d_L_act_78 ?_
      refine V.il4 g0 d_L_act_80 ?_
      refine V.iconst g0 d_L_act_82 ?_
      have wb := lowZ_b (z := v) (n := 32) (by decide)
      have kb := kA_b hO v
      have cb := cA_b v
      have frb := frA_b v
      have unb := unA_b v
      have dyb := dyA_b v
      have fgb := fgA_b v
      have otb := otA_b v
      have psb := psA_b v
      refine V.icmpge g0 d_L_act_83 (by omega) (fun c_83 => ?_) (fun c_83 => ?_)
      · skip
        refine V.il4 g0 d_L_act_93 ?_
        refine V.bipush g0 d_L_act_95 (by decide) ?_
        refine V.icmpge g0 d_L_act_97 (by omega) (fun c_97 => ?_) (fun c_97 => ?_)
        · skip
          refine V.il4 g0 d_L_act_183 ?_
          refine V.bipush g0 d_L_act_185 (by decide) ?_
          refine V.icmpge g0 d_L_act_187 (by omega) (fun c_187 => ?_) (fun c_187 => ?_)
          · skip
            refine V.il4 g0 d_L_act_234 ?_
            refine V.bipush g0 d_L_act_236 (by decide) ?_
            refine V.icmpge g0 d_L_act_238 (by omega) (fun c_238 => ?_) (fun c_238 => ?_)
            · skip
              refine V.il4 g0 d_L_act_256 ?_
              refine V.bipush g0 d_L_act_258 (by decide) ?_
              refine V.icmpne g0 d_L_act_260 (by omega) (fun c_260 => ?_) (fun c_260 => ?_)
              · skip
                refine V.il4 g0 d_L_act_272 ?_
                refine V.bipush g0 d_L_act_274 (by decide) ?_
                refine V.icmpne g0 d_L_act_276 (by omega) (fun c_276 => ?_) (fun c_276 => ?_)
                · skip
                  refine V.al0 g0 d_L_act_290 ?_
                  refine V.il2 g0 d_L_act_291 ?_
                  refine V.il3 g0 d_L_act_292 ?_
                  refine V.ifeqB g0 d_L_act_293 (fun c_293 => ?_) (fun c_293 => ?_)
                  · skip
                    refine V.bipush g0 d_L_act_301 (by decide) ?_
                    refine V.callSp g0 (MT.ans (c_L_low (by omega)) (show _ = psA v from congrArg (lowZ (shrZ v 5)) (if_neg c_39).symm)) ky_L_low ks_L_low lk_L_8 (Nat.le_of_ble_eq_true rfl) ⟨Nat.zero_le _, Nat.zero_le _⟩ rfl rfl (Nat.le_of_ble_eq_true rfl) d_L_act_303 ?_
                    refine V.callV g0 (c_X6_pass hX (by constructor <;> omega)) ky_X6_pass ki_X6_pass ks2_X6_pass lk_L_40 hXo rfl rfl (Nat.le_of_ble_eq_true rfl) ⟨by omega, by omega⟩ rfl rfl (Nat.le_of_ble_eq_true rfl) d_L_act_306 (fun v_306 n_306 M_306 h_306 => ?_)
                    obtain ⟨rfl, hn1, hX1, hf1⟩ := h_306
                    have eg : actA A (gAct A.1 v) = a_pass A (psA v) := by
                      rw [show gAct A.1 v = g_pass A.1 (psA v) from (if_neg c_83).trans ((if_neg c_97).trans ((if_neg c_187).trans ((if_neg c_238).trans ((if_neg c_260).trans (if_neg c_276)))))]
                      exact (pass_e _).symm
                    refine V.iret g d_L_act_309 (by omega) (by omega) ?_
                    rw [eg]
                    exact ⟨rfl, hn1, hX1, hf1⟩
                  · skip
                    exact absurd c_293 c_39
                · skip
                  refine V.al0 g0 d_L_act_279 ?_
                  refine V.il6 g0 d_L_act_280 ?_
                  refine V.il7 g0 d_L_act_282 ?_
                  refine V.callV g0 (c_X6_revoke hX (by constructor <;> omega) (by constructor <;> omega)) ky_X6_revoke ki_X6_revoke ks2_X6_revoke lk_L_37 hXo rfl rfl (Nat.le_of_ble_eq_true rfl) ⟨by omega, by omega⟩ rfl rfl (Nat.le_of_ble_eq_true rfl) d_L_act_284 (fun v_284 n_284 M_284 h_284 => ?_)
                  obtain ⟨rfl, hn1, hX1, hf1⟩ := h_284
                  have eg : actA A (gAct A.1 v) = a_revoke A (kA A.1 v) (cA v) := by
                    rw [show gAct A.1 v = g_revoke A.1 (kA A.1 v) (cA v) from (if_neg c_83).trans ((if_neg c_97).trans ((if_neg c_187).trans ((if_neg c_238).trans ((if_neg c_260).trans (if_pos c_276)))))]
                    exact (revoke_e _ _).symm
                  refine V.goto g0 d_L_act_287 ?_
                  refine V.iret g d_L_act_309 (by omega) (by omega) ?_
                  rw [eg]
                  exact ⟨rfl, hn1, hX1, hf1⟩
              · skip
                refine V.al0 g0 d_L_act_263 ?_
                refine V.il6 g0 d_L_act_264 ?_
                refine V.callV g0 (c_X6_renew hX (by constructor <;> omega)) ky_X6_renew ki_X6_renew ks2_X6_renew lk_L_34 hXo rfl rfl (Nat.le_of_ble_eq_true rfl) ⟨by omega, by omega⟩ rfl rfl (Nat.le_of_ble_eq_true rfl) d_L_act_266 (fun v_266 n_266 M_266 h_266 => ?_)
                obtain ⟨rfl, hn1, hX1, hf1⟩ := h_266
                have eg : actA A (gAct A.1 v) = a_renew A (kA A.1 v) := by
                  rw [show gAct A.1 v = g_renew A.1 (kA A.1 v) from (if_neg c_83).trans ((if_neg c_97).trans ((if_neg c_187).trans ((if_neg c_238).trans (if_pos c_260))))]
                  exact (renew_e hO _).symm
                refine V.goto g0 d_L_act_269 ?_
                refine V.iret g d_L_act_309 (by omega) (by omega) ?_
                rw [eg]
                exact ⟨rfl, hn1, hX1, hf1⟩
            · skip
              refine V.al0 g0 d_L_act_241 ?_
              refine V.il7 g0 d_L_act_242 ?_
              refine V.il2 g0 d_L_act_244 ?_
              refine V.iconst g0 d_L_act_245 ?_
              refine V.ishr g0 d_L_act_246 (shrE (shrZ v 5) 5) ?_
              refine V.bipush g0 d_L_act_247 (by decide) ?_
              refine V.callSp g0 (MT.ans (c_L_low (by omega)) (show _ = otA v from rfl)) ky_L_low ks_L_low lk_L_8 (Nat.le_of_ble_eq_true rfl) ⟨Nat.zero_le _, Nat.zero_le _⟩ rfl rfl (Nat.le_of_ble_eq_true rfl) d_L_act_249 ?_
              refine V.callV g0 (c_X6_turnBorder hX (by constructor <;> omega) (by constructor <;> omega)) ky_X6_turnBorder ki_X6_turnBorder ks2_X6_turnBorder lk_L_31 hXo rfl rfl (Nat.le_of_ble_eq_true rfl) ⟨by omega, by omega⟩ rfl rfl (Nat.le_of_ble_eq_true rfl) d_L_act_252 (fun v_252 n_252 M_252 h_252 => ?_)
              obtain ⟨rfl, hn1, hX1, hf1⟩ := h_252
              have eg : actA A (gAct A.1 v) = a_turn A (cA v) (otA v) := by
                rw [show gAct A.1 v = g_turn A.1 (cA v) (otA v) from (if_neg c_83).trans ((if_neg c_97).trans ((if_neg c_187).trans (if_pos c_238)))]
                exact (turn_e _ _).symm
              refine V.iret g d_L_act_255 (by omega) (by omega) ?_
              rw [eg]
              exact ⟨rfl, hn1, hX1, hf1⟩
          · skip
            refine V.al0 g0 d_L_act_190 ?_
            refine V.il6 g0 d_L_act_191 ?_
            refine V.il7 g0 d_L_act_193 ?_
            refine V.il2 g0 d_L_act_195 ?_
            refine V.bipush g0 d_L_act_196 (by decide) ?_
            refine V.ishr g0 d_L_act_198 (shrE (shrZ v 5) 6) ?_
            refine V.bipush g0 d_L_act_199 (by decide) ?_
            refine V.callSp g0 (MT.ans (c_L_low (by omega)) rfl) ky_L_low ks_L_low lk_L_8 (Nat.le_of_ble_eq_true rfl) ⟨Nat.zero_le _, Nat.zero_le _⟩ rfl rfl (Nat.le_of_ble_eq_true rfl) d_L_act_201 ?_
            refine V.il3 g0 d_L_act_204 ?_
            refine V.ifeqB g0 d_L_act_205 (fun c_205 => ?_) (fun c_205 => ?_)
            · skip
              refine V.bipush g0 d_L_act_212 (by decide) ?_
              refine V.icmpge g0 d_L_act_214 (by have := lowZ_b (z := shrZ (shrZ v 5) 6) (n := 13) (by decide); omega) (fun c_214 => ?_) (fun c_214 => ?_)
              · skip
                refine V.iconst g0 d_L_act_229 ?_
                refine V.eqS1 (show (0 : Int) = fgA v from (if_neg (show ¬ lowZ (shrZ (shrZ v 5) 6) 13 < (if isA v then 4 else 6) by rw [if_neg c_39]; exact c_214)).symm) ?_
                refine V.callV g0 (c_X6_cross hX (by constructor <;> omega) (by constructor <;> omega) (by constructor <;> omega)) ky_X6_cross ki_X6_cross ks2_X6_cross lk_L_27 hXo rfl rfl (Nat.le_of_ble_eq_true rfl) ⟨by omega, by omega⟩ rfl rfl (Nat.le_of_ble_eq_true rfl) d_L_act_230 (fun v_230 n_230 M_230 h_230 => ?_)
                obtain ⟨rfl, hn1, hX1, hf1⟩ := h_230
                have eg : actA A (gAct A.1 v) = a_cross A (kA A.1 v) (cA v) (fgA v) := by
                  rw [show gAct A.1 v = g_cross A.1 (kA A.1 v) (cA v) (fgA v) from (if_neg c_83).trans ((if_neg c_97).trans (if_pos c_187))]
                  exact (cross_e hO _ _ _).symm
                refine V.iret g d_L_act_233 (by omega) (by omega) ?_
                rw [eg]
                exact ⟨rfl, hn1, hX1, hf1⟩
              · skip
                refine V.il2 g0 d_L_act_217 ?_
                refine V.bipush g0 d_L_act_218 (by decide) ?_
                refine V.ishr g0 d_L_act_220 (shrE (shrZ v 5) 6) ?_
                refine V.bipush g0 d_L_act_221 (by decide) ?_
                refine V.callSp g0 (MT.ans (c_L_low (by omega)) rfl) ky_L_low ks_L_low lk_L_8 (Nat.le_of_ble_eq_true rfl) ⟨Nat.zero_le _, Nat.zero_le _⟩ rfl rfl (Nat.le_of_ble_eq_true rfl) d_L_act_223 ?_
                refine V.goto g0 d_L_act_226 ?_
                refine V.eqS1 (show lowZ (shrZ (shrZ v 5) 6) 13 = fgA v from (if_pos (show lowZ (shrZ (shrZ v 5) 6) 13 < (if isA v then 4 else 6) by rw [if_neg c_39]; exact c_214)).symm) ?_
                refine V.callV g0 (c_X6_cross hX (by constructor <;> omega) (by constructor <;> omega) (by constructor <;> omega)) ky_X6_cross ki_X6_cross ks2_X6_cross lk_L_27 hXo rfl rfl (Nat.le_of_ble_eq_true rfl) ⟨by omega, by omega⟩ rfl rfl (Nat.le_of_ble_eq_true rfl) d_L_act_230 (fun v_230 n_230 M_230 h_230 => ?_)
                obtain ⟨rfl, hn1, hX1, hf1⟩ := h_230
                have eg : actA A (gAct A.1 v) = a_cross A (kA A.1 v) (cA v) (fgA v) := by
                  rw [show gAct A.1 v = g_cross A.1 (kA A.1 v) (cA v) (fgA v) from (if_neg c_83).trans ((if_neg c_97).trans (if_pos c_187))]
                  exact (cross_e hO _ _ _).symm
                refine V.iret g d_L_act_233 (by omega) (by omega) ?_
                rw [eg]
                exact ⟨rfl, hn1, hX1, hf1⟩
            · skip
              exact absurd c_205 c_39
        · skip
          refine V.il2 g0 d_L_act_100 ?_
          refine V.iconst g0 d_L_act_101 ?_
          refine V.ishr g0 d_L_act_102 (shrE (shrZ v 5) 4) ?_
          refine V.il3 g0 d_L_act_103 ?_
          refine V.ifeqB g0 d_L_act_104 (fun c_104 => ?_) (fun c_104 => ?_)
          · skip
            refine V.sipush g0 d_L_act_112 (by decide) ?_
            refine V.callSp g0 (MT.ans (c_L_low (by omega)) (show _ = frA v from congrArg (lowZ (shrZ (shrZ v 5) 4)) (if_neg c_39).symm)) ky_L_low ks_L_low lk_L_8 (Nat.le_of_ble_eq_true rfl) ⟨Nat.zero_le _, Nat.zero_le _⟩ rfl rfl (Nat.le_of_ble_eq_true rfl) d_L_act_115 ?_
            refine V.is8 g0 d_L_act_118 ?_
            refine V.al0 g0 d_L_act_120 ?_
            refine V.il6 g0 d_L_act_121 ?_
            refine V.il7 g0 d_L_act_123 ?_
            refine V.il8 g0 d_L_act_125 ?_
            refine V.il3 g0 d_L_act_127 ?_
            refine V.ifeqB g0 d_L_act_128 (fun c_128 => ?_) (fun c_128 => ?_)
            · skip
              refine V.il2 g0 d_L_act_146 ?_
              refine V.bipush g0 d_L_act_147 (by decide) ?_
              refine V.ishr g0 d_L_act_149 (shrE (shrZ v 5) 7) ?_
              refine V.sipush g0 d_L_act_150 (by decide) ?_
              refine V.callSp g0 (MT.ans (c_L_low (by omega)) rfl) ky_L_low ks_L_low lk_L_8 (Nat.le_of_ble_eq_true rfl) ⟨Nat.zero_le _, Nat.zero_le _⟩ rfl rfl (Nat.le_of_ble_eq_true rfl) d_L_act_153 ?_
              refine V.eqS1 (show lowZ (shrZ (shrZ v 5) 7) 1100 = unA v from (if_neg c_39).symm) ?_
              refine V.il2 g0 d_L_act_156 ?_
              refine V.bipush g0 d_L_act_157 (by decide) ?_
              refine V.ishr g0 d_L_act_159 (shrE (shrZ v 5) 9) ?_
              refine V.il2 g0 d_L_act_160 ?_
              refine V.bipush g0 d_L_act_161 (by decide) ?_
              refine V.ishr g0 d_L_act_163 (shrE (shrZ v 5) 12) ?_
              refine V.iconst g0 d_L_act_164 ?_
              refine V.iand g0 d_L_act_165 (andE (shrZ (shrZ v 5) 12) 1) ?_
              refine V.ifne g0 d_L_act_166 (andZ_rg _ _) (fun c_166 => ?_) (fun c_166 => ?_)
              · skip
                refine V.bipush g0 d_L_act_174 (by decide) ?_
                refine V.callSp g0 (MT.ans (c_L_low (by omega)) (show _ = dyA v from congrArg (lowZ (shrZ (shrZ v 5) 9)) (if_neg c_166).symm)) ky_L_low ks_L_low lk_L_8 (Nat.le_of_ble_eq_true rfl) ⟨Nat.zero_le _, Nat.zero_le _⟩ rfl rfl (Nat.le_of_ble_eq_true rfl) d_L_act_176 ?_
                refine V.callV g0 (c_X6_grant hX (by constructor <;> omega) (by constructor <;> omega) (by constructor <;> omega) (by constructor <;> omega) (by constructor <;> omega)) ky_X6_grant ki_X6_grant ks2_X6_grant lk_L_23 hXo rfl rfl (Nat.le_of_ble_eq_true rfl) ⟨by omega, by omega⟩ rfl rfl (Nat.le_of_ble_eq_true rfl) d_L_act_179 (fun v_179 n_179 M_179 h_179 => ?_)
                obtain ⟨rfl, hn1, hX1, hf1⟩ := h_179
                have eg : actA A (gAct A.1 v) = a_grant A (kA A.1 v) (cA v) (frA v) (unA v) (dyA v) := by
                  rw [show gAct A.1 v = g_grant A.1 (kA A.1 v) (cA v) (frA v) (unA v) (dyA v) from (if_neg c_83).trans (if_pos c_97)]
                  exact (grant_e _ _ _ _ _).symm
                refine V.iret g d_L_act_182 (by omega) (by omega) ?_
                rw [eg]
                exact ⟨rfl, hn1, hX1, hf1⟩
              · skip
                refine V.bipush g0 d_L_act_169 (by decide) ?_
                refine V.goto g0 d_L_act_171 ?_
                refine V.callSp g0 (MT.ans (c_L_low (by omega)) (show _ = dyA v from congrArg (lowZ (shrZ (shrZ v 5) 9)) (if_pos c_166).symm)) ky_L_low ks_L_low lk_L_8 (Nat.le_of_ble_eq_true rfl) ⟨Nat.zero_le _, Nat.zero_le _⟩ rfl rfl (Nat.le_of_ble_eq_true rfl) d_L_act_176 ?_
                refine V.callV g0 (c_X6_grant hX (by constructor <;> omega) (by constructor <;> omega) (by constructor <;> omega) (by constructor <;> omega) (by constructor <;> omega)) ky_X6_grant ki_X6_grant ks2_X6_grant lk_L_23 hXo rfl rfl (Nat.le_of_ble_eq_true rfl) ⟨by omega, by omega⟩ rfl rfl (Nat.le_of_ble_eq_true rfl) d_L_act_179 (fun v_179 n_179 M_179 h_179 => ?_)
                obtain ⟨rfl, hn1, hX1, hf1⟩ := h_179
                have eg : actA A (gAct A.1 v) = a_grant A (kA A.1 v) (cA v) (frA v) (unA v) (dyA v) := by
                  rw [show gAct A.1 v = g_grant A.1 (kA A.1 v) (cA v) (frA v) (unA v) (dyA v) from (if_neg c_83).trans (if_pos c_97)]
                  exact (grant_e _ _ _ _ _).symm
                refine V.iret g d_L_act_182 (by omega) (by omega) ?_
                rw [eg]
                exact ⟨rfl, hn1, hX1, hf1⟩
            · skip
              exact absurd c_128 c_39
          · skip
            exact absurd c_104 c_39
      · skip
        refine V.al0 g0 d_L_act_86 ?_
        refine V.il7 g0 d_L_act_87 ?_
        refine V.callV g0 (c_X6_issue hX (by constructor <;> omega)) ky_X6_issue ki_X6_issue ks2_X6_issue lk_L_20 hXo rfl rfl (Nat.le_of_ble_eq_true rfl) ⟨by omega, by omega⟩ rfl rfl (Nat.le_of_ble_eq_true rfl) d_L_act_89 (fun v_89 n_89 M_89 h_89 => ?_)
        obtain ⟨rfl, hn1, hX1, hf1⟩ := h_89
        have eg : actA A (gAct A.1 v) = a_issue A (cA v) := by
          rw [show gAct A.1 v = g_issue A.1 (cA v) from if_pos c_83]
          exact (issue_e hO _).symm
        refine V.iret g d_L_act_92 (by omega) (by omega) ?_
        rw [eg]
        exact ⟨rfl, hn1, hX1, hf1⟩
    · skip
      exact absurd c_65 c_39
  · skip
    refine V.il5 g0 d_L_act_42 ?_
    refine V.ifle g0 d_L_act_44 (by omega) (fun c_44 => ?_) (fun c_44 => ?_)
    · skip
      refine V.il5 g0 d_L_act_52 ?_
      refine V.iconst g0 d_L_act_54 ?_
      refine V.iadd g0 d_L_act_55 ?_
      refine V.callSp g0 (MT.ans (c_L_low (by omega)) (show _ = kA A.1 v from congrArg (lowZ (shrZ v 5)) (if_neg (fun q => absurd q.2 (by omega))).symm)) ky_L_low ks_L_low lk_L_8 (Nat.le_of_ble_eq_true rfl) ⟨Nat.zero_le _, Nat.zero_le _⟩ rfl rfl (Nat.le_of_ble_eq_true rfl) d_L_act_56 ?_
      refine V.is6 g0 d_L_act_59 ?_
      refine V.il2 g0 d_L_act_61 ?_
      refine V.iconst g0 d_L_act_62 ?_
      refine V.ishr g0 d_L_act_63 (shrE (shrZ v 5) 2) ?_
      refine V.il3 g0 d_L_act_64 ?_
      refine V.ifeqB g0 d_L_act_65 (fun c_65 => ?_) (fun c_65 => ?_)
      · skip
        exact absurd c_39 c_65
      · skip
        refine V.bipush g0 d_L_act_68 (by decide) ?_
        refine V.goto g0 d_L_act_70 ?_
        refine V.callSp g0 (MT.ans (c_L_low (by omega)) (show _ = cA v from congrArg (lowZ (shrZ (shrZ v 5) 2)) (if_pos c_39).symm)) ky_L_low ks_L_low lk_L_8 (Nat.le_of_ble_eq_true rfl) ⟨Nat.zero_le _, Nat.zero_le _⟩ rfl rfl (Nat.le_of_ble_eq_true rfl) d_L_act_75 ?_
        refine V.is7 g0 d_L_act_78 ?_
        refine V.il4 g0 d_L_act_80 ?_
        refine V.iconst g0 d_L_act_82 ?_
        have wb := lowZ_b (z := v) (n := 32) (by decide)
        have kb := kA_b hO v
        have cb := cA_b v
        have frb := frA_b v
        have unb := unA_b v
        have dyb := dyA_b v
        have fgb := fgA_b v
        have otb := otA_b v
        have psb := psA_b v
        refine V.icmpge g0 d_L_act_83 (by omega) (fun c_83 => ?_) (fun c_83 => ?_)
        · skip
          refine V.il4 g0 d_L_act_93 ?_
          refine V.bipush g0 d_L_act_95 (by decide) ?_
          refine V.icmpge g0 d_L_act_97 (by omega) (fun c_97 => ?_) (fun c_97 => ?_)
          · skip
            refine V.il4 g0 d_L_act_183 ?_
            refine V.bipush g0 d_L_act_185 (by decide) ?_
            refine V.icmpge g0 d_L_act_187 (by omega) (fun c_187 => ?_) (fun c_187 => ?_)
            · skip
              refine V.il4 g0 d_L_act_234 ?_
              refine V.bipush g0 d_L_act_236 (by decide) ?_
              refine V.icmpge g0 d_L_act_238 (by omega) (fun c_238 => ?_) (fun c_238 => ?_)
              · skip
                refine V.il4 g0 d_L_act_256 ?_
                refine V.bipush g0 d_L_act_258 (by decide) ?_
                refine V.icmpne g0 d_L_act_260 (by omega) (fun c_260 => ?_) (fun c_260 => ?_)
                · skip
                  refine V.il4 g0 d_L_act_272 ?_
                  refine V.bipush g0 d_L_act_274 (by decide) ?_
                  refine V.icmpne g0 d_L_act_276 (by omega) (fun c_276 => ?_) (fun c_276 => ?_)
                  · skip
                    refine V.al0 g0 d_L_act_290 ?_
                    refine V.il2 g0 d_L_act_291 ?_
                    refine V.il3 g0 d_L_act_292 ?_
                    refine V.ifeqB g0 d_L_act_293 (fun c_293 => ?_) (fun c_293 => ?_)
                    · skip
                      exact absurd c_39 c_293
                    · skip
                      refine V.bipush g0 d_L_act_296 (by decide) ?_
                      refine V.goto g0 d_L_act_298 ?_
                      refine V.callSp g0 (MT.ans (c_L_low (by omega)) (show _ = psA v from congrArg (lowZ (shrZ v 5)) (if_pos c_39).symm)) ky_L_low ks_L_low lk_L_8 (Nat.le_of_ble_eq_true rfl) ⟨Nat.zero_le _, Nat.zero_le _⟩ rfl rfl (Nat.le_of_ble_eq_true rfl) d_L_act_303 ?_
                      refine V.callV g0 (c_X6_pass hX (by constructor <;> omega)) ky_X6_pass ki_X6_pass ks2_X6_pass lk_L_40 hXo rfl rfl (Nat.le_of_ble_eq_true rfl) ⟨by omega, by omega⟩ rfl rfl (Nat.le_of_ble_eq_true rfl) d_L_act_306 (fun v_306 n_306 M_306 h_306 => ?_)
                      obtain ⟨rfl, hn1, hX1, hf1⟩ := h_306
                      have eg : actA A (gAct A.1 v) = a_pass A (psA v) := by
                        rw [show gAct A.1 v = g_pass A.1 (psA v) from (if_neg c_83).trans ((if_neg c_97).trans ((if_neg c_187).trans ((if_neg c_238).trans ((if_neg c_260).trans (if_neg c_276)))))]
                        exact (pass_e _).symm
                      refine V.iret g d_L_act_309 (by omega) (by omega) ?_
                      rw [eg]
                      exact ⟨rfl, hn1, hX1, hf1⟩
                  · skip
                    refine V.al0 g0 d_L_act_279 ?_
                    refine V.il6 g0 d_L_act_280 ?_
                    refine V.il7 g0 d_L_act_282 ?_
                    refine V.callV g0 (c_X6_revoke hX (by constructor <;> omega) (by constructor <;> omega)) ky_X6_revoke ki_X6_revoke ks2_X6_revoke lk_L_37 hXo rfl rfl (Nat.le_of_ble_eq_true rfl) ⟨by omega, by omega⟩ rfl rfl (Nat.le_of_ble_eq_true rfl) d_L_act_284 (fun v_284 n_284 M_284 h_284 => ?_)
                    obtain ⟨rfl, hn1, hX1, hf1⟩ := h_284
                    have eg : actA A (gAct A.1 v) = a_revoke A (kA A.1 v) (cA v) := by
                      rw [show gAct A.1 v = g_revoke A.1 (kA A.1 v) (cA v) from (if_neg c_83).trans ((if_neg c_97).trans ((if_neg c_187).trans ((if_neg c_238).trans ((if_neg c_260).trans (if_pos c_276)))))]
                      exact (revoke_e _ _).symm
                    refine V.goto g0 d_L_act_287 ?_
                    refine V.iret g d_L_act_309 (by omega) (by omega) ?_
                    rw [eg]
                    exact ⟨rfl, hn1, hX1, hf1⟩
                · skip
                  refine V.al0 g0 d_L_act_263 ?_
                  refine V.il6 g0 d_L_act_264 ?_
                  refine V.callV g0 (c_X6_renew hX (by constructor <;> omega)) ky_X6_renew ki_X6_renew ks2_X6_renew lk_L_34 hXo rfl rfl (Nat.le_of_ble_eq_true rfl) ⟨by omega, by omega⟩ rfl rfl (Nat.le_of_ble_eq_true rfl) d_L_act_266 (fun v_266 n_266 M_266 h_266 => ?_)
                  obtain ⟨rfl, hn1, hX1, hf1⟩ := h_266
                  have eg : actA A (gAct A.1 v) = a_renew A (kA A.1 v) := by
                    rw [show gAct A.1 v = g_renew A.1 (kA A.1 v) from (if_neg c_83).trans ((if_neg c_97).trans ((if_neg c_187).trans ((if_neg c_238).trans (if_pos c_260))))]
                    exact (renew_e hO _).symm
                  refine V.goto g0 d_L_act_269 ?_
                  refine V.iret g d_L_act_309 (by omega) (by omega) ?_
                  rw [eg]
                  exact ⟨rfl, hn1, hX1, hf1⟩
              · skip
                refine V.al0 g0 d_L_act_241 ?_
                refine V.il7 g0 d_L_act_242 ?_
                refine V.il2 g0 d_L_act_244 ?_
                refine V.iconst g0 d_L_act_245 ?_
                refine V.ishr g0 d_L_act_246 (shrE (shrZ v 5) 5) ?_
                refine V.bipush g0 d_L_act_247 (by decide) ?_
                refine V.callSp g0 (MT.ans (c_L_low (by omega)) (show _ = otA v from rfl)) ky_L_low ks_L_low lk_L_8 (Nat.le_of_ble_eq_true rfl) ⟨Nat.zero_le _, Nat.zero_le _⟩ rfl rfl (Nat.le_of_ble_eq_true rfl) d_L_act_249 ?_
                refine V.callV g0 (c_X6_turnBorder hX (by constructor <;> omega) (by constructor <;> omega)) ky_X6_turnBorder ki_X6_turnBorder ks2_X6_turnBorder lk_L_31 hXo rfl rfl (Nat.le_of_ble_eq_true rfl) ⟨by omega, by omega⟩ rfl rfl (Nat.le_of_ble_eq_true rfl) d_L_act_252 (fun v_252 n_252 M_252 h_252 => ?_)
                obtain ⟨rfl, hn1, hX1, hf1⟩ := h_252
                have eg : actA A (gAct A.1 v) = a_turn A (cA v) (otA v) := by
                  rw [show gAct A.1 v = g_turn A.1 (cA v) (otA v) from (if_neg c_83).trans ((if_neg c_97).trans ((if_neg c_187).trans (if_pos c_238)))]
                  exact (turn_e _ _).symm
                refine V.iret g d_L_act_255 (by omega) (by omega) ?_
                rw [eg]
                exact ⟨rfl, hn1, hX1, hf1⟩
            · skip
              refine V.al0 g0 d_L_act_190 ?_
              refine V.il6 g0 d_L_act_191 ?_
              refine V.il7 g0 d_L_act_193 ?_
              refine V.il2 g0 d_L_act_195 ?_
              refine V.bipush g0 d_L_act_196 (by decide) ?_
              refine V.ishr g0 d_L_act_198 (shrE (shrZ v 5) 6) ?_
              refine V.bipush g0 d_L_act_199 (by decide) ?_
              refine V.callSp g0 (MT.ans (c_L_low (by omega)) rfl) ky_L_low ks_L_low lk_L_8 (Nat.le_of_ble_eq_true rfl) ⟨Nat.zero_le _, Nat.zero_le _⟩ rfl rfl (Nat.le_of_ble_eq_true rfl) d_L_act_201 ?_
              refine V.il3 g0 d_L_act_204 ?_
              refine V.ifeqB g0 d_L_act_205 (fun c_205 => ?_) (fun c_205 => ?_)
              · skip
                exact absurd c_39 c_205
              · skip
                refine V.iconst g0 d_L_act_208 ?_
                refine V.goto g0 d_L_act_209 ?_
                refine V.icmpge g0 d_L_act_214 (by have := lowZ_b (z := shrZ (shrZ v 5) 6) (n := 13) (by decide); omega) (fun c_214 => ?_) (fun c_214 => ?_)
                · skip
                  refine V.iconst g0 d_L_act_229 ?_
                  refine V.eqS1 (show (0 : Int) = fgA v from (if_neg (show ¬ lowZ (shrZ (shrZ v 5) 6) 13 < (if isA v then 4 else 6) by rw [if_pos c_39]; exact c_214)).symm) ?_
                  refine V.callV g0 (c_X6_cross hX (by constructor <;> omega) (by constructor <;> omega) (by constructor <;> omega)) ky_X6_cross ki_X6_cross ks2_X6_cross lk_L_27 hXo rfl rfl (Nat.le_of_ble_eq_true rfl) ⟨by omega, by omega⟩ rfl rfl (Nat.le_of_ble_eq_true rfl) d_L_act_230 (fun v_230 n_230 M_230 h_230 => ?_)
                  obtain ⟨rfl, hn1, hX1, hf1⟩ := h_230
                  have eg : actA A (gAct A.1 v) = a_cross A (kA A.1 v) (cA v) (fgA v) := by
                    rw [show gAct A.1 v = g_cross A.1 (kA A.1 v) (cA v) (fgA v) from (if_neg c_83).trans ((if_neg c_97).trans (if_pos c_187))]
                    exact (cross_e hO _ _ _).symm
                  refine V.iret g d_L_act_233 (by omega) (by omega) ?_
                  rw [eg]
                  exact ⟨rfl, hn1, hX1, hf1⟩
                · skip
                  refine V.il2 g0 d_L_act_217 ?_
                  refine V.bipush g0 d_L_act_218 (by decide) ?_
                  refine V.ishr g0 d_L_act_220 (shrE (shrZ v 5) 6) ?_
                  refine V.bipush g0 d_L_act_221 (by decide) ?_
                  refine V.callSp g0 (MT.ans (c_L_low (by omega)) rfl) ky_L_low ks_L_low lk_L_8 (Nat.le_of_ble_eq_true rfl) ⟨Nat.zero_le _, Nat.zero_le _⟩ rfl rfl (Nat.le_of_ble_eq_true rfl) d_L_act_223 ?_
                  refine V.goto g0 d_L_act_226 ?_
                  refine V.eqS1 (show lowZ (shrZ (shrZ v 5) 6) 13 = fgA v from (if_pos (show lowZ (shrZ (shrZ v 5) 6) 13 < (if isA v then 4 else 6) by rw [if_pos c_39]; exact c_214)).symm) ?_
                  refine V.callV g0 (c_X6_cross hX (by constructor <;> omega) (by constructor <;> omega) (by constructor <;> omega)) ky_X6_cross ki_X6_cross ks2_X6_cross lk_L_27 hXo rfl rfl (Nat.le_of_ble_eq_true rfl) ⟨by omega, by omega⟩ rfl rfl (Nat.le_of_ble_eq_true rfl) d_L_act_230 (fun v_230 n_230 M_230 h_230 => ?_)
                  obtain ⟨rfl, hn1, hX1, hf1⟩ := h_230
                  have eg : actA A (gAct A.1 v) = a_cross A (kA A.1 v) (cA v) (fgA v) := by
                    rw [show gAct A.1 v = g_cross A.1 (kA A.1 v) (cA v) (fgA v) from (if_neg c_83).trans ((if_neg c_97).trans (if_pos c_187))]
                    exact (cross_e hO _ _ _).symm
                  refine V.iret g d_L_act_233 (by omega) (by omega) ?_
                  rw [eg]
                  exact ⟨rfl, hn1, hX1, hf1⟩
          · skip
            refine V.il2 g0 d_L_act_100 ?_
            refine V.iconst g0 d_L_act_101 ?_
            refine V.ishr g0 d_L_act_102 (shrE (shrZ v 5) 4) ?_
            refine V.il3 g0 d_L_act_103 ?_
            refine V.ifeqB g0 d_L_act_104 (fun c_104 => ?_) (fun c_104 => ?_)
            · skip
              exact absurd c_39 c_104
            · skip
              refine V.bipush g0 d_L_act_107 (by decide) ?_
              refine V.goto g0 d_L_act_109 ?_
              refine V.callSp g0 (MT.ans (c_L_low (by omega)) (show _ = frA v from congrArg (lowZ (shrZ (shrZ v 5) 4)) (if_pos c_39).symm)) ky_L_low ks_L_low lk_L_8 (Nat.le_of_ble_eq_true rfl) ⟨Nat.zero_le _, Nat.zero_le _⟩ rfl rfl (Nat.le_of_ble_eq_true rfl) d_L_act_115 ?_
              refine V.is8 g0 d_L_act_118 ?_
              refine V.al0 g0 d_L_act_120 ?_
              refine V.il6 g0 d_L_act_121 ?_
              refine V.il7 g0 d_L_act_123 ?_
              refine V.il8 g0 d_L_act_125 ?_
              refine V.il3 g0 d_L_act_127 ?_
              refine V.ifeqB g0 d_L_act_128 (fun c_128 => ?_) (fun c_128 => ?_)
              · skip
                exact absurd c_39 c_128
              · skip
                refine V.il8 g0 d_L_act_131 ?_
                refine V.il2 g0 d_L_act_133 ?_
                refine V.bipush g0 d_L_act_134 (by decide) ?_
                refine V.ishr g0 d_L_act_136 (shrE (shrZ v 5) 7) ?_
                refine V.bipush g0 d_L_act_137 (by decide) ?_
                refine V.callSp g0 (MT.ans (c_L_low (by omega)) rfl) ky_L_low ks_L_low lk_L_8 (Nat.le_of_ble_eq_true rfl) ⟨Nat.zero_le _, Nat.zero_le _⟩ rfl rfl (Nat.le_of_ble_eq_true rfl) d_L_act_139 ?_
                refine V.iadd g0 d_L_act_142 ?_
                refine V.goto g0 d_L_act_143 ?_
                refine V.eqS1 (show frA v + lowZ (shrZ (shrZ v 5) 7) 30 = unA v from (if_pos c_39).symm) ?_
                refine V.il2 g0 d_L_act_156 ?_
                refine V.bipush g0 d_L_act_157 (by decide) ?_
                refine V.ishr g0 d_L_act_159 (shrE (shrZ v 5) 9) ?_
                refine V.il2 g0 d_L_act_160 ?_
                refine V.bipush g0 d_L_act_161 (by decide) ?_
                refine V.ishr g0 d_L_act_163 (shrE (shrZ v 5) 12) ?_
                refine V.iconst g0 d_L_act_164 ?_
                refine V.iand g0 d_L_act_165 (andE (shrZ (shrZ v 5) 12) 1) ?_
                refine V.ifne g0 d_L_act_166 (andZ_rg _ _) (fun c_166 => ?_) (fun c_166 => ?_)
                · skip
                  refine V.bipush g0 d_L_act_174 (by decide) ?_
                  refine V.callSp g0 (MT.ans (c_L_low (by omega)) (show _ = dyA v from congrArg (lowZ (shrZ (shrZ v 5) 9)) (if_neg c_166).symm)) ky_L_low ks_L_low lk_L_8 (Nat.le_of_ble_eq_true rfl) ⟨Nat.zero_le _, Nat.zero_le _⟩ rfl rfl (Nat.le_of_ble_eq_true rfl) d_L_act_176 ?_
                  refine V.callV g0 (c_X6_grant hX (by constructor <;> omega) (by constructor <;> omega) (by constructor <;> omega) (by constructor <;> omega) (by constructor <;> omega)) ky_X6_grant ki_X6_grant ks2_X6_grant lk_L_23 hXo rfl rfl (Nat.le_of_ble_eq_true rfl) ⟨by omega, by omega⟩ rfl rfl (Nat.le_of_ble_eq_true rfl) d_L_act_179 (fun v_179 n_179 M_179 h_179 => ?_)
                  obtain ⟨rfl, hn1, hX1, hf1⟩ := h_179
                  have eg : actA A (gAct A.1 v) = a_grant A (kA A.1 v) (cA v) (frA v) (unA v) (dyA v) := by
                    rw [show gAct A.1 v = g_grant A.1 (kA A.1 v) (cA v) (frA v) (unA v) (dyA v) from (if_neg c_83).trans (if_pos c_97)]
                    exact (grant_e _ _ _ _ _).symm
                  refine V.iret g d_L_act_182 (by omega) (by omega) ?_
                  rw [eg]
                  exact ⟨rfl, hn1, hX1, hf1⟩
                · skip
                  refine V.bipush g0 d_L_act_169 (by decide) ?_
                  refine V.goto g0 d_L_act_171 ?_
                  refine V.callSp g0 (MT.ans (c_L_low (by omega)) (show _ = dyA v from congrArg (lowZ (shrZ (shrZ v 5) 9)) (if_pos c_166).symm)) ky_L_low ks_L_low lk_L_8 (Nat.le_of_ble_eq_true rfl) ⟨Nat.zero_le _, Nat.zero_le _⟩ rfl rfl (Nat.le_of_ble_eq_true rfl) d_L_act_176 ?_
                  refine V.callV g0 (c_X6_grant hX (by constructor <;> omega) (by constructor <;> omega) (by constructor <;> omega) (by constructor <;> omega) (by constructor <;> omega)) ky_X6_grant ki_X6_grant ks2_X6_grant lk_L_23 hXo rfl rfl (Nat.le_of_ble_eq_true rfl) ⟨by omega, by omega⟩ rfl rfl (Nat.le_of_ble_eq_true rfl) d_L_act_179 (fun v_179 n_179 M_179 h_179 => ?_)
                  obtain ⟨rfl, hn1, hX1, hf1⟩ := h_179
                  have eg : actA A (gAct A.1 v) = a_grant A (kA A.1 v) (cA v) (frA v) (unA v) (dyA v) := by
                    rw [show gAct A.1 v = g_grant A.1 (kA A.1 v) (cA v) (frA v) (unA v) (dyA v) from (if_neg c_83).trans (if_pos c_97)]
                    exact (grant_e _ _ _ _ _).symm
                  refine V.iret g d_L_act_182 (by omega) (by omega) ?_
                  rw [eg]
                  exact ⟨rfl, hn1, hX1, hf1⟩
        · skip
          refine V.al0 g0 d_L_act_86 ?_
          refine V.il7 g0 d_L_act_87 ?_
          refine V.callV g0 (c_X6_issue hX (by constructor <;> omega)) ky_X6_issue ki_X6_issue ks2_X6_issue lk_L_20 hXo rfl rfl (Nat.le_of_ble_eq_true rfl) ⟨by omega, by omega⟩ rfl rfl (Nat.le_of_ble_eq_true rfl) d_L_act_89 (fun v_89 n_89 M_89 h_89 => ?_)
          obtain ⟨rfl, hn1, hX1, hf1⟩ := h_89
          have eg : actA A (gAct A.1 v) = a_issue A (cA v) := by
            rw [show gAct A.1 v = g_issue A.1 (cA v) from if_pos c_83]
            exact (issue_e hO _).symm
          refine V.iret g d_L_act_92 (by omega) (by omega) ?_
          rw [eg]
          exact ⟨rfl, hn1, hX1, hf1⟩
    · skip
      refine V.il5 g0 d_L_act_47 ?_
      refine V.goto g0 d_L_act_49 ?_
      refine V.callSp g0 (MT.ans (c_L_low (by omega)) (show _ = kA A.1 v from congrArg (lowZ (shrZ v 5)) (if_pos ⟨c_39, by omega⟩).symm)) ky_L_low ks_L_low lk_L_8 (Nat.le_of_ble_eq_true rfl) ⟨Nat.zero_le _, Nat.zero_le _⟩ rfl rfl (Nat.le_of_ble_eq_true rfl) d_L_act_56 ?_
      refine V.is6 g0 d_L_act_59 ?_
      refine V.il2 g0 d_L_act_61 ?_
      refine V.iconst g0 d_L_act_62 ?_
      refine V.ishr g0 d_L_act_63 (shrE (shrZ v 5) 2) ?_
      refine V.il3 g0 d_L_act_64 ?_
      refine V.ifeqB g0 d_L_act_65 (fun c_65 => ?_) (fun c_65 => ?_)
      · skip
        exact absurd c_39 c_65
      · skip
        refine V.bipush g0 d_L_act_68 (by decide) ?_
        refine V.goto g0 d_L_act_70 ?_
        refine V.callSp g0 (MT.ans (c_L_low (by omega)) (show _ = cA v from congrArg (lowZ (shrZ (shrZ v 5) 2)) (if_pos c_39).symm)) ky_L_low ks_L_low lk_L_8 (Nat.le_of_ble_eq_true rfl) ⟨Nat.zero_le _, Nat.zero_le _⟩ rfl rfl (Nat.le_of_ble_eq_true rfl) d_L_act_75 ?_
        refine V.is7 g0 d_L_act_78 ?_
        refine V.il4 g0 d_L_act_80 ?_
        refine V.iconst g0 d_L_act_82 ?_
        have wb := lowZ_b (z := v) (n := 32) (by decide)
        have kb := kA_b hO v
        have cb := cA_b v
        have frb := frA_b v
        have unb := unA_b v
        have dyb := dyA_b v
        have fgb := fgA_b v
        have otb := otA_b v
        have psb := psA_b v
        refine V.icmpge g0 d_L_act_83 (by omega) (fun c_83 => ?_) (fun c_83 => ?_)
        · skip
          refine V.il4 g0 d_L_act_93 ?_
          refine V.bipush g0 d_L_act_95 (by decide) ?_
          refine V.icmpge g0 d_L_act_97 (by omega) (fun c_97 => ?_) (fun c_97 => ?_)
          · skip
            refine V.il4 g0 d_L_act_183 ?_
            refine V.bipush g0 d_L_act_185 (by decide) ?_
            refine V.icmpge g0 d_L_act_187 (by omega) (fun c_187 => ?_) (fun c_187 => ?_)
            · skip
              refine V.il4 g0 d_L_act_234 ?_
              refine V.bipush g0 d_L_act_236 (by decide) ?_
              refine V.icmpge g0 d_L_act_238 (by omega) (fun c_238 => ?_) (fun c_238 => ?_)
              · skip
                refine V.il4 g0 d_L_act_256 ?_
                refine V.bipush g0 d_L_act_258 (by decide) ?_
                refine V.icmpne g0 d_L_act_260 (by omega) (fun c_260 => ?_) (fun c_260 => ?_)
                · skip
                  refine V.il4 g0 d_L_act_272 ?_
                  refine V.bipush g0 d_L_act_274 (by decide) ?_
                  refine V.icmpne g0 d_L_act_276 (by omega) (fun c_276 => ?_) (fun c_276 => ?_)
                  · skip
                    refine V.al0 g0 d_L_act_290 ?_
                    refine V.il2 g0 d_L_act_291 ?_
                    refine V.il3 g0 d_L_act_292 ?_
                    refine V.ifeqB g0 d_L_act_293 (fun c_293 => ?_) (fun c_293 => ?_)
                    · skip
                      exact absurd c_39 c_293
                    · skip
                      refine V.bipush g0 d_L_act_296 (by decide) ?_
                      refine V.goto g0 d_L_act_298 ?_
                      refine V.callSp g0 (MT.ans (c_L_low (by omega)) (show _ = psA v from congrArg (lowZ (shrZ v 5)) (if_pos c_39).symm)) ky_L_low ks_L_low lk_L_8 (Nat.le_of_ble_eq_true rfl) ⟨Nat.zero_le _, Nat.zero_le _⟩ rfl rfl (Nat.le_of_ble_eq_true rfl) d_L_act_303 ?_
                      refine V.callV g0 (c_X6_pass hX (by constructor <;> omega)) ky_X6_pass ki_X6_pass ks2_X6_pass lk_L_40 hXo rfl rfl (Nat.le_of_ble_eq_true rfl) ⟨by omega, by omega⟩ rfl rfl (Nat.le_of_ble_eq_true rfl) d_L_act_306 (fun v_306 n_306 M_306 h_306 => ?_)
                      obtain ⟨rfl, hn1, hX1, hf1⟩ := h_306
                      have eg : actA A (gAct A.1 v) = a_pass A (psA v) := by
                        rw [show gAct A.1 v = g_pass A.1 (psA v) from (if_neg c_83).trans ((if_neg c_97).trans ((if_neg c_187).trans ((if_neg c_238).trans ((if_neg c_260).trans (if_neg c_276)))))]
                        exact (pass_e _).symm
                      refine V.iret g d_L_act_309 (by omega) (by omega) ?_
                      rw [eg]
                      exact ⟨rfl, hn1, hX1, hf1⟩
                  · skip
                    refine V.al0 g0 d_L_act_279 ?_
                    refine V.il6 g0 d_L_act_280 ?_
                    refine V.il7 g0 d_L_act_282 ?_
                    refine V.callV g0 (c_X6_revoke hX (by constructor <;> omega) (by constructor <;> omega)) ky_X6_revoke ki_X6_revoke ks2_X6_revoke lk_L_37 hXo rfl rfl (Nat.le_of_ble_eq_true rfl) ⟨by omega, by omega⟩ rfl rfl (Nat.le_of_ble_eq_true rfl) d_L_act_284 (fun v_284 n_284 M_284 h_284 => ?_)
                    obtain ⟨rfl, hn1, hX1, hf1⟩ := h_284
                    have eg : actA A (gAct A.1 v) = a_revoke A (kA A.1 v) (cA v) := by
                      rw [show gAct A.1 v = g_revoke A.1 (kA A.1 v) (cA v) from (if_neg c_83).trans ((if_neg c_97).trans ((if_neg c_187).trans ((if_neg c_238).trans ((if_neg c_260).trans (if_pos c_276)))))]
                      exact (revoke_e _ _).symm
                    refine V.goto g0 d_L_act_287 ?_
                    refine V.iret g d_L_act_309 (by omega) (by omega) ?_
                    rw [eg]
                    exact ⟨rfl, hn1, hX1, hf1⟩
                · skip
                  refine V.al0 g0 d_L_act_263 ?_
                  refine V.il6 g0 d_L_act_264 ?_
                  refine V.callV g0 (c_X6_renew hX (by constructor <;> omega)) ky_X6_renew ki_X6_renew ks2_X6_renew lk_L_34 hXo rfl rfl (Nat.le_of_ble_eq_true rfl) ⟨by omega, by omega⟩ rfl rfl (Nat.le_of_ble_eq_true rfl) d_L_act_266 (fun v_266 n_266 M_266 h_266 => ?_)
                  obtain ⟨rfl, hn1, hX1, hf1⟩ := h_266
                  have eg : actA A (gAct A.1 v) = a_renew A (kA A.1 v) := by
                    rw [show gAct A.1 v = g_renew A.1 (kA A.1 v) from (if_neg c_83).trans ((if_neg c_97).trans ((if_neg c_187).trans ((if_neg c_238).trans (if_pos c_260))))]
                    exact (renew_e hO _).symm
                  refine V.goto g0 d_L_act_269 ?_
                  refine V.iret g d_L_act_309 (by omega) (by omega) ?_
                  rw [eg]
                  exact ⟨rfl, hn1, hX1, hf1⟩
              · skip
                refine V.al0 g0 d_L_act_241 ?_
                refine V.il7 g0 d_L_act_242 ?_
                refine V.il2 g0 d_L_act_244 ?_
                refine V.iconst g0 d_L_act_245 ?_
                refine V.ishr g0 d_L_act_246 (shrE (shrZ v 5) 5) ?_
                refine V.bipush g0 d_L_act_247 (by decide) ?_
                refine V.callSp g0 (MT.ans (c_L_low (by omega)) (show _ = otA v from rfl)) ky_L_low ks_L_low lk_L_8 (Nat.le_of_ble_eq_true rfl) ⟨Nat.zero_le _, Nat.zero_le _⟩ rfl rfl (Nat.le_of_ble_eq_true rfl) d_L_act_249 ?_
                refine V.callV g0 (c_X6_turnBorder hX (by constructor <;> omega) (by constructor <;> omega)) ky_X6_turnBorder ki_X6_turnBorder ks2_X6_turnBorder lk_L_31 hXo rfl rfl (Nat.le_of_ble_eq_true rfl) ⟨by omega, by omega⟩ rfl rfl (Nat.le_of_ble_eq_true rfl) d_L_act_252 (fun v_252 n_252 M_252 h_252 => ?_)
                obtain ⟨rfl, hn1, hX1, hf1⟩ := h_252
                have eg : actA A (gAct A.1 v) = a_turn A (cA v) (otA v) := by
                  rw [show gAct A.1 v = g_turn A.1 (cA v) (otA v) from (if_neg c_83).trans ((if_neg c_97).trans ((if_neg c_187).trans (if_pos c_238)))]
                  exact (turn_e _ _).symm
                refine V.iret g d_L_act_255 (by omega) (by omega) ?_
                rw [eg]
                exact ⟨rfl, hn1, hX1, hf1⟩
            · skip
              refine V.al0 g0 d_L_act_190 ?_
              refine V.il6 g0 d_L_act_191 ?_
              refine V.il7 g0 d_L_act_193 ?_
              refine V.il2 g0 d_L_act_195 ?_
              refine V.bipush g0 d_L_act_196 (by decide) ?_
              refine V.ishr g0 d_L_act_198 (shrE (shrZ v 5) 6) ?_
              refine V.bipush g0 d_L_act_199 (by decide) ?_
              refine V.callSp g0 (MT.ans (c_L_low (by omega)) rfl) ky_L_low ks_L_low lk_L_8 (Nat.le_of_ble_eq_true rfl) ⟨Nat.zero_le _, Nat.zero_le _⟩ rfl rfl (Nat.le_of_ble_eq_true rfl) d_L_act_201 ?_
              refine V.il3 g0 d_L_act_204 ?_
              refine V.ifeqB g0 d_L_act_205 (fun c_205 => ?_) (fun c_205 => ?_)
              · skip
                exact absurd c_39 c_205
              · skip
                refine V.iconst g0 d_L_act_208 ?_
                refine V.goto g0 d_L_act_209 ?_
                refine V.icmpge g0 d_L_act_214 (by have := lowZ_b (z := shrZ (shrZ v 5) 6) (n := 13) (by decide); omega) (fun c_214 => ?_) (fun c_214 => ?_)
                · skip
                  refine V.iconst g0 d_L_act_229 ?_
                  refine V.eqS1 (show (0 : Int) = fgA v from (if_neg (show ¬ lowZ (shrZ (shrZ v 5) 6) 13 < (if isA v then 4 else 6) by rw [if_pos c_39]; exact c_214)).symm) ?_
                  refine V.callV g0 (c_X6_cross hX (by constructor <;> omega) (by constructor <;> omega) (by constructor <;> omega)) ky_X6_cross ki_X6_cross ks2_X6_cross lk_L_27 hXo rfl rfl (Nat.le_of_ble_eq_true rfl) ⟨by omega, by omega⟩ rfl rfl (Nat.le_of_ble_eq_true rfl) d_L_act_230 (fun v_230 n_230 M_230 h_230 => ?_)
                  obtain ⟨rfl, hn1, hX1, hf1⟩ := h_230
                  have eg : actA A (gAct A.1 v) = a_cross A (kA A.1 v) (cA v) (fgA v) := by
                    rw [show gAct A.1 v = g_cross A.1 (kA A.1 v) (cA v) (fgA v) from (if_neg c_83).trans ((if_neg c_97).trans (if_pos c_187))]
                    exact (cross_e hO _ _ _).symm
                  refine V.iret g d_L_act_233 (by omega) (by omega) ?_
                  rw [eg]
                  exact ⟨rfl, hn1, hX1, hf1⟩
                · skip
                  refine V.il2 g0 d_L_act_217 ?_
                  refine V.bipush g0 d_L_act_218 (by decide) ?_
                  refine V.ishr g0 d_L_act_220 (shrE (shrZ v 5) 6) ?_
                  refine V.bipush g0 d_L_act_221 (by decide) ?_
                  refine V.callSp g0 (MT.ans (c_L_low (by omega)) rfl) ky_L_low ks_L_low lk_L_8 (Nat.le_of_ble_eq_true rfl) ⟨Nat.zero_le _, Nat.zero_le _⟩ rfl rfl (Nat.le_of_ble_eq_true rfl) d_L_act_223 ?_
                  refine V.goto g0 d_L_act_226 ?_
                  refine V.eqS1 (show lowZ (shrZ (shrZ v 5) 6) 13 = fgA v from (if_pos (show lowZ (shrZ (shrZ v 5) 6) 13 < (if isA v then 4 else 6) by rw [if_pos c_39]; exact c_214)).symm) ?_
                  refine V.callV g0 (c_X6_cross hX (by constructor <;> omega) (by constructor <;> omega) (by constructor <;> omega)) ky_X6_cross ki_X6_cross ks2_X6_cross lk_L_27 hXo rfl rfl (Nat.le_of_ble_eq_true rfl) ⟨by omega, by omega⟩ rfl rfl (Nat.le_of_ble_eq_true rfl) d_L_act_230 (fun v_230 n_230 M_230 h_230 => ?_)
                  obtain ⟨rfl, hn1, hX1, hf1⟩ := h_230
                  have eg : actA A (gAct A.1 v) = a_cross A (kA A.1 v) (cA v) (fgA v) := by
                    rw [show gAct A.1 v = g_cross A.1 (kA A.1 v) (cA v) (fgA v) from (if_neg c_83).trans ((if_neg c_97).trans (if_pos c_187))]
                    exact (cross_e hO _ _ _).symm
                  refine V.iret g d_L_act_233 (by omega) (by omega) ?_
                  rw [eg]
                  exact ⟨rfl, hn1, hX1, hf1⟩
          · skip
            refine V.il2 g0 d_L_act_100 ?_
            refine V.iconst g0 d_L_act_101 ?_
            refine V.ishr g0 d_L_act_102 (shrE (shrZ v 5) 4) ?_
            refine V.il3 g0 d_L_act_103 ?_
            refine V.ifeqB g0 d_L_act_104 (fun c_104 => ?_) (fun c_104 => ?_)
            · skip
              exact absurd c_39 c_104
            · skip
              refine V.bipush g0 d_L_act_107 (by decide) ?_
              refine V.goto g0 d_L_act_109 ?_
              refine V.callSp g0 (MT.ans (c_L_low (by omega)) (show _ = frA v from congrArg (lowZ (shrZ (shrZ v 5) 4)) (if_pos c_39).symm)) ky_L_low ks_L_low lk_L_8 (Nat.le_of_ble_eq_true rfl) ⟨Nat.zero_le _, Nat.zero_le _⟩ rfl rfl (Nat.le_of_ble_eq_true rfl) d_L_act_115 ?_
              refine V.is8 g0 d_L_act_118 ?_
              refine V.al0 g0 d_L_act_120 ?_
              refine V.il6 g0 d_L_act_121 ?_
              refine V.il7 g0 d_L_act_123 ?_
              refine V.il8 g0 d_L_act_125 ?_
              refine V.il3 g0 d_L_act_127 ?_
              refine V.ifeqB g0 d_L_act_128 (fun c_128 => ?_) (fun c_128 => ?_)
              · skip
                exact absurd c_39 c_128
              · skip
                refine V.il8 g0 d_L_act_131 ?_
                refine V.il2 g0 d_L_act_133 ?_
                refine V.bipush g0 d_L_act_134 (by decide) ?_
                refine V.ishr g0 d_L_act_136 (shrE (shrZ v 5) 7) ?_
                refine V.bipush g0 d_L_act_137 (by decide) ?_
                refine V.callSp g0 (MT.ans (c_L_low (by omega)) rfl) ky_L_low ks_L_low lk_L_8 (Nat.le_of_ble_eq_true rfl) ⟨Nat.zero_le _, Nat.zero_le _⟩ rfl rfl (Nat.le_of_ble_eq_true rfl) d_L_act_139 ?_
                refine V.iadd g0 d_L_act_142 ?_
                refine V.goto g0 d_L_act_143 ?_
                refine V.eqS1 (show frA v + lowZ (shrZ (shrZ v 5) 7) 30 = unA v from (if_pos c_39).symm) ?_
                refine V.il2 g0 d_L_act_156 ?_
                refine V.bipush g0 d_L_act_157 (by decide) ?_
                refine V.ishr g0 d_L_act_159 (shrE (shrZ v 5) 9) ?_
                refine V.il2 g0 d_L_act_160 ?_
                refine V.bipush g0 d_L_act_161 (by decide) ?_
                refine V.ishr g0 d_L_act_163 (shrE (shrZ v 5) 12) ?_
                refine V.iconst g0 d_L_act_164 ?_
                refine V.iand g0 d_L_act_165 (andE (shrZ (shrZ v 5) 12) 1) ?_
                refine V.ifne g0 d_L_act_166 (andZ_rg _ _) (fun c_166 => ?_) (fun c_166 => ?_)
                · skip
                  refine V.bipush g0 d_L_act_174 (by decide) ?_
                  refine V.callSp g0 (MT.ans (c_L_low (by omega)) (show _ = dyA v from congrArg (lowZ (shrZ (shrZ v 5) 9)) (if_neg c_166).symm)) ky_L_low ks_L_low lk_L_8 (Nat.le_of_ble_eq_true rfl) ⟨Nat.zero_le _, Nat.zero_le _⟩ rfl rfl (Nat.le_of_ble_eq_true rfl) d_L_act_176 ?_
                  refine V.callV g0 (c_X6_grant hX (by constructor <;> omega) (by constructor <;> omega) (by constructor <;> omega) (by constructor <;> omega) (by constructor <;> omega)) ky_X6_grant ki_X6_grant ks2_X6_grant lk_L_23 hXo rfl rfl (Nat.le_of_ble_eq_true rfl) ⟨by omega, by omega⟩ rfl rfl (Nat.le_of_ble_eq_true rfl) d_L_act_179 (fun v_179 n_179 M_179 h_179 => ?_)
                  obtain ⟨rfl, hn1, hX1, hf1⟩ := h_179
                  have eg : actA A (gAct A.1 v) = a_grant A (kA A.1 v) (cA v) (frA v) (unA v) (dyA v) := by
                    rw [show gAct A.1 v = g_grant A.1 (kA A.1 v) (cA v) (frA v) (unA v) (dyA v) from (if_neg c_83).trans (if_pos c_97)]
                    exact (grant_e _ _ _ _ _).symm
                  refine V.iret g d_L_act_182 (by omega) (by omega) ?_
                  rw [eg]
                  exact ⟨rfl, hn1, hX1, hf1⟩
                · skip
                  refine V.bipush g0 d_L_act_169 (by decide) ?_
                  refine V.goto g0 d_L_act_171 ?_
                  refine V.callSp g0 (MT.ans (c_L_low (by omega)) (show _ = dyA v from congrArg (lowZ (shrZ (shrZ v 5) 9)) (if_pos c_166).symm)) ky_L_low ks_L_low lk_L_8 (Nat.le_of_ble_eq_true rfl) ⟨Nat.zero_le _, Nat.zero_le _⟩ rfl rfl (Nat.le_of_ble_eq_true rfl) d_L_act_176 ?_
                  refine V.callV g0 (c_X6_grant hX (by constructor <;> omega) (by constructor <;> omega) (by constructor <;> omega) (by constructor <;> omega) (by constructor <;> omega)) ky_X6_grant ki_X6_grant ks2_X6_grant lk_L_23 hXo rfl rfl (Nat.le_of_ble_eq_true rfl) ⟨by omega, by omega⟩ rfl rfl (Nat.le_of_ble_eq_true rfl) d_L_act_179 (fun v_179 n_179 M_179 h_179 => ?_)
                  obtain ⟨rfl, hn1, hX1, hf1⟩ := h_179
                  have eg : actA A (gAct A.1 v) = a_grant A (kA A.1 v) (cA v) (frA v) (unA v) (dyA v) := by
                    rw [show gAct A.1 v = g_grant A.1 (kA A.1 v) (cA v) (frA v) (unA v) (dyA v) from (if_neg c_83).trans (if_pos c_97)]
                    exact (grant_e _ _ _ _ _).symm
                  refine V.iret g d_L_act_182 (by omega) (by omega) ?_
                  rw [eg]
                  exact ⟨rfl, hn1, hX1, hf1⟩
        · skip
          refine V.al0 g0 d_L_act_86 ?_
          refine V.il7 g0 d_L_act_87 ?_
          refine V.callV g0 (c_X6_issue hX (by constructor <;> omega)) ky_X6_issue ki_X6_issue ks2_X6_issue lk_L_20 hXo rfl rfl (Nat.le_of_ble_eq_true rfl) ⟨by omega, by omega⟩ rfl rfl (Nat.le_of_ble_eq_true rfl) d_L_act_89 (fun v_89 n_89 M_89 h_89 => ?_)
          obtain ⟨rfl, hn1, hX1, hf1⟩ := h_89
          have eg : actA A (gAct A.1 v) = a_issue A (cA v) := by
            rw [show gAct A.1 v = g_issue A.1 (cA v) from if_pos c_83]
            exact (issue_e hO _).symm
          refine V.iret g d_L_act_92 (by omega) (by omega) ?_
          rw [eg]
          exact ⟨rfl, hn1, hX1, hf1⟩
