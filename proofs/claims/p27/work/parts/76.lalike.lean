theorem d_L_areAlike_0 : Dc cL_areAlike 0 1 1 (.aload_n 0) := ⟨by decide +kernel, rfl⟩
theorem d_L_areAlike_1 : Dc cL_areAlike 1 3 4 (.invokevirtual 43) := ⟨by decide +kernel, rfl⟩
theorem d_L_areAlike_4 : Dc cL_areAlike 4 1 5 (.aload_n 1) := ⟨by decide +kernel, rfl⟩
theorem d_L_areAlike_5 : Dc cL_areAlike 5 3 8 (.invokevirtual 43) := ⟨by decide +kernel, rfl⟩
theorem d_L_areAlike_8 : Dj cL_areAlike 8 11 15 (.if_icmp .ne) := ⟨7, by decide +kernel, rfl, by decide⟩
theorem d_L_areAlike_11 : Dc cL_areAlike 11 1 12 (.iconst 1) := ⟨by decide +kernel, rfl⟩
theorem d_L_areAlike_12 : Dj cL_areAlike 12 15 16 .goto := ⟨4, by decide +kernel, rfl, by decide⟩
theorem d_L_areAlike_15 : Dc cL_areAlike 15 1 16 (.iconst 0) := ⟨by decide +kernel, rfl⟩
theorem d_L_areAlike_16 : Dc cL_areAlike 16 1 17 (.istore_n 2) := ⟨by decide +kernel, rfl⟩
theorem d_L_areAlike_17 : Dc cL_areAlike 17 1 18 (.iconst 0) := ⟨by decide +kernel, rfl⟩
theorem d_L_areAlike_18 : Dc cL_areAlike 18 1 19 (.istore_n 3) := ⟨by decide +kernel, rfl⟩
theorem d_L_areAlike_19 : Dc cL_areAlike 19 1 20 (.iload_n 3) := ⟨by decide +kernel, rfl⟩
theorem d_L_areAlike_20 : Dc cL_areAlike 20 2 22 (.bipush 10) := ⟨by decide +kernel, rfl⟩
theorem d_L_areAlike_22 : Dj cL_areAlike 22 25 54 (.if_icmp .ge) := ⟨32, by decide +kernel, rfl, by decide⟩
theorem d_L_areAlike_25 : Dc cL_areAlike 25 1 26 (.iload_n 2) := ⟨by decide +kernel, rfl⟩
theorem d_L_areAlike_26 : Dj cL_areAlike 26 29 46 (.ifCond .eq) := ⟨20, by decide +kernel, rfl, by decide⟩
theorem d_L_areAlike_29 : Dc cL_areAlike 29 1 30 (.aload_n 0) := ⟨by decide +kernel, rfl⟩
theorem d_L_areAlike_30 : Dc cL_areAlike 30 1 31 (.iload_n 3) := ⟨by decide +kernel, rfl⟩
theorem d_L_areAlike_31 : Dc cL_areAlike 31 3 34 (.invokevirtual 14) := ⟨by decide +kernel, rfl⟩
theorem d_L_areAlike_34 : Dc cL_areAlike 34 1 35 (.aload_n 1) := ⟨by decide +kernel, rfl⟩
theorem d_L_areAlike_35 : Dc cL_areAlike 35 1 36 (.iload_n 3) := ⟨by decide +kernel, rfl⟩
theorem d_L_areAlike_36 : Dc cL_areAlike 36 3 39 (.invokevirtual 14) := ⟨by decide +kernel, rfl⟩
theorem d_L_areAlike_39 : Dj cL_areAlike 39 42 46 (.if_icmp .ne) := ⟨7, by decide +kernel, rfl, by decide⟩
theorem d_L_areAlike_42 : Dc cL_areAlike 42 1 43 (.iconst 1) := ⟨by decide +kernel, rfl⟩
theorem d_L_areAlike_43 : Dj cL_areAlike 43 46 47 .goto := ⟨4, by decide +kernel, rfl, by decide⟩
theorem d_L_areAlike_46 : Dc cL_areAlike 46 1 47 (.iconst 0) := ⟨by decide +kernel, rfl⟩
theorem d_L_areAlike_47 : Dc cL_areAlike 47 1 48 (.istore_n 2) := ⟨by decide +kernel, rfl⟩
theorem d_L_areAlike_48 : Dc cL_areAlike 48 3 51 (.iinc 3 1) := ⟨by decide +kernel, rfl⟩
theorem d_L_areAlike_51 : Dj cL_areAlike 51 54 19 .goto := ⟨(-32), by decide +kernel, rfl, by decide⟩
theorem d_L_areAlike_54 : Dc cL_areAlike 54 1 55 (.iconst 0) := ⟨by decide +kernel, rfl⟩
theorem d_L_areAlike_55 : Dc cL_areAlike 55 1 56 (.istore_n 3) := ⟨by decide +kernel, rfl⟩
theorem d_L_areAlike_56 : Dc cL_areAlike 56 1 57 (.iload_n 3) := ⟨by decide +kernel, rfl⟩
theorem d_L_areAlike_57 : Dc cL_areAlike 57 1 58 (.aload_n 0) := ⟨by decide +kernel, rfl⟩
theorem d_L_areAlike_58 : Dc cL_areAlike 58 1 59 (.iconst 1) := ⟨by decide +kernel, rfl⟩
theorem d_L_areAlike_59 : Dc cL_areAlike 59 3 62 (.invokevirtual 14) := ⟨by decide +kernel, rfl⟩
theorem d_L_areAlike_62 : Dj cL_areAlike 62 65 230 (.if_icmp .ge) := ⟨168, by decide +kernel, rfl, by decide⟩
theorem d_L_areAlike_65 : Dc cL_areAlike 65 1 66 (.iconst 0) := ⟨by decide +kernel, rfl⟩
theorem d_L_areAlike_66 : Dc cL_areAlike 66 2 68 (.istore 4) := ⟨by decide +kernel, rfl⟩
theorem d_L_areAlike_68 : Dc cL_areAlike 68 2 70 (.iload 4) := ⟨by decide +kernel, rfl⟩
theorem d_L_areAlike_70 : Dc cL_areAlike 70 2 72 (.bipush 9) := ⟨by decide +kernel, rfl⟩
theorem d_L_areAlike_72 : Dj cL_areAlike 72 75 108 (.if_icmp .ge) := ⟨36, by decide +kernel, rfl, by decide⟩
theorem d_L_areAlike_75 : Dc cL_areAlike 75 1 76 (.iload_n 2) := ⟨by decide +kernel, rfl⟩
theorem d_L_areAlike_76 : Dj cL_areAlike 76 79 100 (.ifCond .eq) := ⟨24, by decide +kernel, rfl, by decide⟩
theorem d_L_areAlike_79 : Dc cL_areAlike 79 1 80 (.aload_n 0) := ⟨by decide +kernel, rfl⟩
theorem d_L_areAlike_80 : Dc cL_areAlike 80 1 81 (.iload_n 3) := ⟨by decide +kernel, rfl⟩
theorem d_L_areAlike_81 : Dc cL_areAlike 81 2 83 (.iload 4) := ⟨by decide +kernel, rfl⟩
theorem d_L_areAlike_83 : Dc cL_areAlike 83 3 86 (.invokevirtual 47) := ⟨by decide +kernel, rfl⟩
theorem d_L_areAlike_86 : Dc cL_areAlike 86 1 87 (.aload_n 1) := ⟨by decide +kernel, rfl⟩
theorem d_L_areAlike_87 : Dc cL_areAlike 87 1 88 (.iload_n 3) := ⟨by decide +kernel, rfl⟩
theorem d_L_areAlike_88 : Dc cL_areAlike 88 2 90 (.iload 4) := ⟨by decide +kernel, rfl⟩
theorem d_L_areAlike_90 : Dc cL_areAlike 90 3 93 (.invokevirtual 47) := ⟨by decide +kernel, rfl⟩
theorem d_L_areAlike_93 : Dj cL_areAlike 93 96 100 (.if_icmp .ne) := ⟨7, by decide +kernel, rfl, by decide⟩
theorem d_L_areAlike_96 : Dc cL_areAlike 96 1 97 (.iconst 1) := ⟨by decide +kernel, rfl⟩
theorem d_L_areAlike_97 : Dj cL_areAlike 97 100 101 .goto := ⟨4, by decide +kernel, rfl, by decide⟩
theorem d_L_areAlike_100 : Dc cL_areAlike 100 1 101 (.iconst 0) := ⟨by decide +kernel, rfl⟩
theorem d_L_areAlike_101 : Dc cL_areAlike 101 1 102 (.istore_n 2) := ⟨by decide +kernel, rfl⟩
theorem d_L_areAlike_102 : Dc cL_areAlike 102 3 105 (.iinc 4 1) := ⟨by decide +kernel, rfl⟩
theorem d_L_areAlike_105 : Dj cL_areAlike 105 108 68 .goto := ⟨(-37), by decide +kernel, rfl, by decide⟩
theorem d_L_areAlike_108 : Dc cL_areAlike 108 1 109 (.iconst 0) := ⟨by decide +kernel, rfl⟩
theorem d_L_areAlike_109 : Dc cL_areAlike 109 2 111 (.istore 4) := ⟨by decide +kernel, rfl⟩
theorem d_L_areAlike_111 : Dc cL_areAlike 111 2 113 (.iload 4) := ⟨by decide +kernel, rfl⟩
theorem d_L_areAlike_113 : Dc cL_areAlike 113 1 114 (.iconst 5) := ⟨by decide +kernel, rfl⟩
theorem d_L_areAlike_114 : Dc cL_areAlike 114 1 115 (.aload_n 0) := ⟨by decide +kernel, rfl⟩
theorem d_L_areAlike_115 : Dc cL_areAlike 115 1 116 (.iload_n 3) := ⟨by decide +kernel, rfl⟩
theorem d_L_areAlike_116 : Dc cL_areAlike 116 1 117 (.iconst 3) := ⟨by decide +kernel, rfl⟩
theorem d_L_areAlike_117 : Dc cL_areAlike 117 3 120 (.invokevirtual 47) := ⟨by decide +kernel, rfl⟩
theorem d_L_areAlike_120 : Dc cL_areAlike 120 1 121 .imul := ⟨by decide +kernel, rfl⟩
theorem d_L_areAlike_121 : Dj cL_areAlike 121 124 169 (.if_icmp .ge) := ⟨48, by decide +kernel, rfl, by decide⟩
theorem d_L_areAlike_124 : Dc cL_areAlike 124 1 125 (.iload_n 2) := ⟨by decide +kernel, rfl⟩
theorem d_L_areAlike_125 : Dj cL_areAlike 125 128 161 (.ifCond .eq) := ⟨36, by decide +kernel, rfl, by decide⟩
theorem d_L_areAlike_128 : Dc cL_areAlike 128 1 129 (.aload_n 0) := ⟨by decide +kernel, rfl⟩
theorem d_L_areAlike_129 : Dc cL_areAlike 129 1 130 (.iload_n 3) := ⟨by decide +kernel, rfl⟩
theorem d_L_areAlike_130 : Dc cL_areAlike 130 2 132 (.iload 4) := ⟨by decide +kernel, rfl⟩
theorem d_L_areAlike_132 : Dc cL_areAlike 132 1 133 (.iconst 5) := ⟨by decide +kernel, rfl⟩
theorem d_L_areAlike_133 : Dc cL_areAlike 133 1 134 .idiv := ⟨by decide +kernel, rfl⟩
theorem d_L_areAlike_134 : Dc cL_areAlike 134 2 136 (.iload 4) := ⟨by decide +kernel, rfl⟩
theorem d_L_areAlike_136 : Dc cL_areAlike 136 1 137 (.iconst 5) := ⟨by decide +kernel, rfl⟩
theorem d_L_areAlike_137 : Dc cL_areAlike 137 1 138 .irem := ⟨by decide +kernel, rfl⟩
theorem d_L_areAlike_138 : Dc cL_areAlike 138 3 141 (.invokevirtual 50) := ⟨by decide +kernel, rfl⟩
theorem d_L_areAlike_141 : Dc cL_areAlike 141 1 142 (.aload_n 1) := ⟨by decide +kernel, rfl⟩
theorem d_L_areAlike_142 : Dc cL_areAlike 142 1 143 (.iload_n 3) := ⟨by decide +kernel, rfl⟩
theorem d_L_areAlike_143 : Dc cL_areAlike 143 2 145 (.iload 4) := ⟨by decide +kernel, rfl⟩
theorem d_L_areAlike_145 : Dc cL_areAlike 145 1 146 (.iconst 5) := ⟨by decide +kernel, rfl⟩
theorem d_L_areAlike_146 : Dc cL_areAlike 146 1 147 .idiv := ⟨by decide +kernel, rfl⟩
theorem d_L_areAlike_147 : Dc cL_areAlike 147 2 149 (.iload 4) := ⟨by decide +kernel, rfl⟩
theorem d_L_areAlike_149 : Dc cL_areAlike 149 1 150 (.iconst 5) := ⟨by decide +kernel, rfl⟩
theorem d_L_areAlike_150 : Dc cL_areAlike 150 1 151 .irem := ⟨by decide +kernel, rfl⟩
theorem d_L_areAlike_151 : Dc cL_areAlike 151 3 154 (.invokevirtual 50) := ⟨by decide +kernel, rfl⟩
theorem d_L_areAlike_154 : Dj cL_areAlike 154 157 161 (.if_icmp .ne) := ⟨7, by decide +kernel, rfl, by decide⟩
theorem d_L_areAlike_157 : Dc cL_areAlike 157 1 158 (.iconst 1) := ⟨by decide +kernel, rfl⟩
theorem d_L_areAlike_158 : Dj cL_areAlike 158 161 162 .goto := ⟨4, by decide +kernel, rfl, by decide⟩
theorem d_L_areAlike_161 : Dc cL_areAlike 161 1 162 (.iconst 0) := ⟨by decide +kernel, rfl⟩
theorem d_L_areAlike_162 : Dc cL_areAlike 162 1 163 (.istore_n 2) := ⟨by decide +kernel, rfl⟩
theorem d_L_areAlike_163 : Dc cL_areAlike 163 3 166 (.iinc 4 1) := ⟨by decide +kernel, rfl⟩
theorem d_L_areAlike_166 : Dj cL_areAlike 166 169 111 .goto := ⟨(-55), by decide +kernel, rfl, by decide⟩
theorem d_L_areAlike_169 : Dc cL_areAlike 169 1 170 (.iconst 0) := ⟨by decide +kernel, rfl⟩
theorem d_L_areAlike_170 : Dc cL_areAlike 170 2 172 (.istore 4) := ⟨by decide +kernel, rfl⟩
theorem d_L_areAlike_172 : Dc cL_areAlike 172 2 174 (.iload 4) := ⟨by decide +kernel, rfl⟩
theorem d_L_areAlike_174 : Dc cL_areAlike 174 2 176 (.bipush 30) := ⟨by decide +kernel, rfl⟩
theorem d_L_areAlike_176 : Dj cL_areAlike 176 179 224 (.if_icmp .ge) := ⟨48, by decide +kernel, rfl, by decide⟩
theorem d_L_areAlike_179 : Dc cL_areAlike 179 1 180 (.iload_n 2) := ⟨by decide +kernel, rfl⟩
theorem d_L_areAlike_180 : Dj cL_areAlike 180 183 216 (.ifCond .eq) := ⟨36, by decide +kernel, rfl, by decide⟩
theorem d_L_areAlike_183 : Dc cL_areAlike 183 1 184 (.aload_n 0) := ⟨by decide +kernel, rfl⟩
theorem d_L_areAlike_184 : Dc cL_areAlike 184 1 185 (.iload_n 3) := ⟨by decide +kernel, rfl⟩
theorem d_L_areAlike_185 : Dc cL_areAlike 185 2 187 (.iload 4) := ⟨by decide +kernel, rfl⟩
theorem d_L_areAlike_187 : Dc cL_areAlike 187 1 188 (.iconst 5) := ⟨by decide +kernel, rfl⟩
theorem d_L_areAlike_188 : Dc cL_areAlike 188 1 189 .idiv := ⟨by decide +kernel, rfl⟩
theorem d_L_areAlike_189 : Dc cL_areAlike 189 2 191 (.iload 4) := ⟨by decide +kernel, rfl⟩
theorem d_L_areAlike_191 : Dc cL_areAlike 191 1 192 (.iconst 5) := ⟨by decide +kernel, rfl⟩
theorem d_L_areAlike_192 : Dc cL_areAlike 192 1 193 .irem := ⟨by decide +kernel, rfl⟩
theorem d_L_areAlike_193 : Dc cL_areAlike 193 3 196 (.invokevirtual 53) := ⟨by decide +kernel, rfl⟩
theorem d_L_areAlike_196 : Dc cL_areAlike 196 1 197 (.aload_n 1) := ⟨by decide +kernel, rfl⟩
theorem d_L_areAlike_197 : Dc cL_areAlike 197 1 198 (.iload_n 3) := ⟨by decide +kernel, rfl⟩
theorem d_L_areAlike_198 : Dc cL_areAlike 198 2 200 (.iload 4) := ⟨by decide +kernel, rfl⟩
theorem d_L_areAlike_200 : Dc cL_areAlike 200 1 201 (.iconst 5) := ⟨by decide +kernel, rfl⟩
theorem d_L_areAlike_201 : Dc cL_areAlike 201 1 202 .idiv := ⟨by decide +kernel, rfl⟩
theorem d_L_areAlike_202 : Dc cL_areAlike 202 2 204 (.iload 4) := ⟨by decide +kernel, rfl⟩
theorem d_L_areAlike_204 : Dc cL_areAlike 204 1 205 (.iconst 5) := ⟨by decide +kernel, rfl⟩
theorem d_L_areAlike_205 : Dc cL_areAlike 205 1 206 .irem := ⟨by decide +kernel, rfl⟩
theorem d_L_areAlike_206 : Dc cL_areAlike 206 3 209 (.invokevirtual 53) := ⟨by decide +kernel, rfl⟩
theorem d_L_areAlike_209 : Dj cL_areAlike 209 212 216 (.if_icmp .ne) := ⟨7, by decide +kernel, rfl, by decide⟩
theorem d_L_areAlike_212 : Dc cL_areAlike 212 1 213 (.iconst 1) := ⟨by decide +kernel, rfl⟩
theorem d_L_areAlike_213 : Dj cL_areAlike 213 216 217 .goto := ⟨4, by decide +kernel, rfl, by decide⟩
theorem d_L_areAlike_216 : Dc cL_areAlike 216 1 217 (.iconst 0) := ⟨by decide +kernel, rfl⟩
theorem d_L_areAlike_217 : Dc cL_areAlike 217 1 218 (.istore_n 2) := ⟨by decide +kernel, rfl⟩
theorem d_L_areAlike_218 : Dc cL_areAlike 218 3 221 (.iinc 4 1) := ⟨by decide +kernel, rfl⟩
theorem d_L_areAlike_221 : Dj cL_areAlike 221 224 172 .goto := ⟨(-49), by decide +kernel, rfl, by decide⟩
theorem d_L_areAlike_224 : Dc cL_areAlike 224 3 227 (.iinc 3 1) := ⟨by decide +kernel, rfl⟩
theorem d_L_areAlike_227 : Dj cL_areAlike 227 230 56 .goto := ⟨(-171), by decide +kernel, rfl, by decide⟩
theorem d_L_areAlike_230 : Dc cL_areAlike 230 1 231 (.iload_n 2) := ⟨by decide +kernel, rfl⟩
theorem d_L_areAlike_231 : decode cL_areAlike 231 = .ok (.ireturn, 1) := by decide +kernel
set_option maxHeartbeats 4000000 in
set_option maxRecDepth 20000 in
theorem c_L_areAlike {E : Ev} {n : Nat} {M : Mem} {w o p : Nat} {A B : AS} (hX : XR E M w n o A) (hY : XR E M w n p B) (hs : B.1 = A.1) : MT E yL_areAlike cL_areAlike 5 (some .boolean) 7 0 0 [.ref o, .ref p] n M (PF (some (.int (iI (1)))) n M) := by
  refine MT.of (by decide) rfl (Nat.le_of_ble_eq_true rfl) ?_
  intro X g
  have g0 := g.1
  show V E X 0 0 n M 0 [some (.ref o), some (.ref p), none, none, none] []
  obtain ⟨fs, hXo, hXn⟩ := hX.now
  obtain ⟨fs2, hYo, hYn⟩ := hY.now
  rw [hs] at hYn
  have hO : Ok A.1 := hXn.ok
  have hm := hO.many
  refine V.al0 g0 d_L_areAlike_0 ?_
  refine V.callVp g0 (c_X6_mistold hXo hXn ) ky_X6_mistold ki_X6_mistold ks2_X6_mistold lk_L_43 hXo rfl rfl (Nat.le_of_ble_eq_true rfl) ⟨Nat.zero_le _, Nat.zero_le _⟩ rfl rfl (Nat.le_of_ble_eq_true rfl) d_L_areAlike_1 ?_
  refine V.al1 g0 d_L_areAlike_4 ?_
  refine V.callVp g0 (c_X6_mistold hYo hYn ) ky_X6_mistold ki_X6_mistold ks2_X6_mistold lk_L_43 hYo rfl rfl (Nat.le_of_ble_eq_true rfl) ⟨Nat.zero_le _, Nat.zero_le _⟩ rfl rfl (Nat.le_of_ble_eq_true rfl) d_L_areAlike_5 ?_
  refine V.sameNe g0 d_L_areAlike_8 ?_
  refine V.iconst g0 d_L_areAlike_11 ?_
  refine V.goto g0 d_L_areAlike_12 ?_
  refine V.is2 g0 d_L_areAlike_16 ?_
  refine V.iconst g0 d_L_areAlike_17 ?_
  refine V.is3 g0 d_L_areAlike_18 ?_
  have LP1 : ∀ (f1 i : Nat), i + f1 = 10 → V E X 0 0 n M 19 [some (.ref o), some (.ref p), some (.int (iI 1)), some (.int (iI (i : Int))), none] [] := by
    intro f1
    induction f1 using Nat.strongRecOn with
    | _ f1 ih1 =>
    intro i hf1
    refine V.il3 g0 d_L_areAlike_19 ?_
    refine V.bipush g0 d_L_areAlike_20 (by decide) ?_
    refine V.icmpge g0 d_L_areAlike_22 (by omega) (fun c_22 => ?_) (fun c_22 => ?_)
    · skip
      refine V.iconst g0 d_L_areAlike_54 ?_
      refine V.is3 g0 d_L_areAlike_55 ?_
      have LP2 : ∀ (f2 i : Nat), i + f2 = (A.1 619).toNat → V E X 0 0 n M 56 [some (.ref o), some (.ref p), some (.int (iI 1)), some (.int (iI (i : Int))), none] [] := by
        intro f2
        induction f2 using Nat.strongRecOn with
        | _ f2 ih2 =>
        intro i hf2
        refine V.il3 g0 d_L_areAlike_56 ?_
        refine V.al0 g0 d_L_areAlike_57 ?_
        refine V.iconst g0 d_L_areAlike_58 ?_
        refine V.callVp g0 (MT.ans (q6_count hX (by decide)) cnt1) ky_X6_count ki_X6_count ks2_X6_count lk_L_14 hXo rfl rfl (Nat.le_of_ble_eq_true rfl) ⟨Nat.zero_le _, Nat.zero_le _⟩ rfl rfl (Nat.le_of_ble_eq_true rfl) d_L_areAlike_59 ?_
        refine V.icmpge g0 d_L_areAlike_62 (by omega) (fun c_62 => ?_) (fun c_62 => ?_)
        · skip
          refine V.il2 g0 d_L_areAlike_230 ?_
          refine V.zret g d_L_areAlike_231 (by first | exact Or.inl rfl | exact Or.inr rfl | exact bI_01 _) (Nat.zero_le _) (Nat.zero_le _) ⟨congrArg (fun z => some (Value.int (iI z))) ?_, rfl, rfl⟩
          rfl
        · skip
          have hk : 0 ≤ (i : Int) ∧ (i : Int) < A.1 619 := by omega
          have hst := (hO.at hk.1 hk.2).stm
          refine V.iconst g0 d_L_areAlike_65 ?_
          refine V.is4 g0 d_L_areAlike_66 ?_
          have LP3 : ∀ (f3 j : Nat), j + f3 = 9 → V E X 0 0 n M 68 [some (.ref o), some (.ref p), some (.int (iI 1)), some (.int (iI (i : Int))), some (.int (iI (j : Int)))] [] := by
            intro f3
            induction f3 using Nat.strongRecOn with
            | _ f3 ih3 =>
            intro j hf3
            refine V.il4 g0 d_L_areAlike_68 ?_
            refine V.bipush g0 d_L_areAlike_70 (by decide) ?_
            refine V.icmpge g0 d_L_areAlike_72 (by omega) (fun c_72 => ?_) (fun c_72 => ?_)
            · skip
              refine V.iconst g0 d_L_areAlike_108 ?_
              refine V.is4 g0 d_L_areAlike_109 ?_
              have LP4 : ∀ (f4 j : Nat), j + f4 = (5 * A.1 (103 * (i : Int) + 8)).toNat → V E X 0 0 n M 111 [some (.ref o), some (.ref p), some (.int (iI 1)), some (.int (iI (i : Int))), some (.int (iI (j : Int)))] [] := by
                intro f4
                induction f4 using Nat.strongRecOn with
                | _ f4 ih4 =>
                intro j hf4
                refine V.il4 g0 d_L_areAlike_111 ?_
                refine V.iconst g0 d_L_areAlike_113 ?_
                refine V.al0 g0 d_L_areAlike_114 ?_
                refine V.il3 g0 d_L_areAlike_115 ?_
                refine V.iconst g0 d_L_areAlike_116 ?_
                refine V.callVp g0 (MT.ans (c_X6_passport hXo hXn (by constructor <;> omega) (by decide)) (pas3 hk)) ky_X6_passport ki_X6_passport ks2_X6_passport lk_L_47 hXo rfl rfl (Nat.le_of_ble_eq_true rfl) ⟨Nat.zero_le _, Nat.zero_le _⟩ rfl rfl (Nat.le_of_ble_eq_true rfl) d_L_areAlike_117 ?_
                refine V.imul g0 d_L_areAlike_120 ?_
                refine V.icmpge g0 d_L_areAlike_121 (by omega) (fun c_121 => ?_) (fun c_121 => ?_)
                · skip
                  refine V.iconst g0 d_L_areAlike_169 ?_
                  refine V.is4 g0 d_L_areAlike_170 ?_
                  have LP5 : ∀ (f5 j : Nat), j + f5 = 30 → V E X 0 0 n M 172 [some (.ref o), some (.ref p), some (.int (iI 1)), some (.int (iI (i : Int))), some (.int (iI (j : Int)))] [] := by
                    intro f5
                    induction f5 using Nat.strongRecOn with
                    | _ f5 ih5 =>
                    intro j hf5
                    refine V.il4 g0 d_L_areAlike_172 ?_
                    refine V.bipush g0 d_L_areAlike_174 (by decide) ?_
                    refine V.icmpge g0 d_L_areAlike_176 (by omega) (fun c_176 => ?_) (fun c_176 => ?_)
                    · skip
                      refine V.inc3 g0 d_L_areAlike_224 ?_
                      refine V.goto g0 d_L_areAlike_227 ?_
                      exact V.weak2 (ih2 (f2 - 1) (by omega) (i + 1) (by omega)) (lcLe_s (lcLe_s (lcLe_s (lcLe_s (lcLe_f lcLe_n)))))
                    · skip
                      refine V.il2 g0 d_L_areAlike_179 ?_
                      refine V.ifeq g0 d_L_areAlike_180 (by decide) (fun c_180 => ?_) (fun c_180 => ?_)
                      · skip
                        exfalso; omega
                      · skip
                        refine V.al0 g0 d_L_areAlike_183 ?_
                        refine V.il3 g0 d_L_areAlike_184 ?_
                        refine V.il4 g0 d_L_areAlike_185 ?_
                        refine V.iconst g0 d_L_areAlike_187 ?_
                        refine V.idiv g0 d_L_areAlike_188 (by omega) (by decide) ?_
                        refine V.il4 g0 d_L_areAlike_189 ?_
                        refine V.iconst g0 d_L_areAlike_191 ?_
                        refine V.irem g0 d_L_areAlike_192 (by omega) (by decide) ?_
                        refine V.callVp g0 (c_X6_visa hXo hXn (by constructor <;> omega) (by constructor <;> omega) (by constructor <;> omega)) ky_X6_visa ki_X6_visa ks2_X6_visa lk_L_53 hXo rfl rfl (Nat.le_of_ble_eq_true rfl) ⟨Nat.zero_le _, Nat.zero_le _⟩ rfl rfl (Nat.le_of_ble_eq_true rfl) d_L_areAlike_193 ?_
                        refine V.al1 g0 d_L_areAlike_196 ?_
                        refine V.il3 g0 d_L_areAlike_197 ?_
                        refine V.il4 g0 d_L_areAlike_198 ?_
                        refine V.iconst g0 d_L_areAlike_200 ?_
                        refine V.idiv g0 d_L_areAlike_201 (by omega) (by decide) ?_
                        refine V.il4 g0 d_L_areAlike_202 ?_
                        refine V.iconst g0 d_L_areAlike_204 ?_
                        refine V.irem g0 d_L_areAlike_205 (by omega) (by decide) ?_
                        refine V.callVp g0 (c_X6_visa hYo hYn (by constructor <;> omega) (by constructor <;> omega) (by constructor <;> omega)) ky_X6_visa ki_X6_visa ks2_X6_visa lk_L_53 hYo rfl rfl (Nat.le_of_ble_eq_true rfl) ⟨Nat.zero_le _, Nat.zero_le _⟩ rfl rfl (Nat.le_of_ble_eq_true rfl) d_L_areAlike_206 ?_
                        refine V.sameNe g0 d_L_areAlike_209 ?_
                        refine V.iconst g0 d_L_areAlike_212 ?_
                        refine V.goto g0 d_L_areAlike_213 ?_
                        refine V.is2 g0 d_L_areAlike_217 ?_
                        refine V.inc4 g0 d_L_areAlike_218 ?_
                        refine V.goto g0 d_L_areAlike_221 ?_
                        exact ih5 (f5 - 1) (by omega) (j + 1) (by omega)
                  exact LP5 30 0 (by omega)
                · skip
                  refine V.il2 g0 d_L_areAlike_124 ?_
                  refine V.ifeq g0 d_L_areAlike_125 (by decide) (fun c_125 => ?_) (fun c_125 => ?_)
                  · skip
                    exfalso; omega
                  · skip
                    refine V.al0 g0 d_L_areAlike_128 ?_
                    refine V.il3 g0 d_L_areAlike_129 ?_
                    refine V.il4 g0 d_L_areAlike_130 ?_
                    refine V.iconst g0 d_L_areAlike_132 ?_
                    refine V.idiv g0 d_L_areAlike_133 (by omega) (by decide) ?_
                    refine V.il4 g0 d_L_areAlike_134 ?_
                    refine V.iconst g0 d_L_areAlike_136 ?_
                    refine V.irem g0 d_L_areAlike_137 (by omega) (by decide) ?_
                    refine V.callVp g0 (c_X6_stamp hXo hXn (by constructor <;> omega) (by constructor <;> omega) (by constructor <;> omega)) ky_X6_stamp ki_X6_stamp ks2_X6_stamp lk_L_50 hXo rfl rfl (Nat.le_of_ble_eq_true rfl) ⟨Nat.zero_le _, Nat.zero_le _⟩ rfl rfl (Nat.le_of_ble_eq_true rfl) d_L_areAlike_138 ?_
                    refine V.al1 g0 d_L_areAlike_141 ?_
                    refine V.il3 g0 d_L_areAlike_142 ?_
                    refine V.il4 g0 d_L_areAlike_143 ?_
                    refine V.iconst g0 d_L_areAlike_145 ?_
                    refine V.idiv g0 d_L_areAlike_146 (by omega) (by decide) ?_
                    refine V.il4 g0 d_L_areAlike_147 ?_
                    refine V.iconst g0 d_L_areAlike_149 ?_
                    refine V.irem g0 d_L_areAlike_150 (by omega) (by decide) ?_
                    refine V.callVp g0 (c_X6_stamp hYo hYn (by constructor <;> omega) (by constructor <;> omega) (by constructor <;> omega)) ky_X6_stamp ki_X6_stamp ks2_X6_stamp lk_L_50 hYo rfl rfl (Nat.le_of_ble_eq_true rfl) ⟨Nat.zero_le _, Nat.zero_le _⟩ rfl rfl (Nat.le_of_ble_eq_true rfl) d_L_areAlike_151 ?_
                    refine V.sameNe g0 d_L_areAlike_154 ?_
                    refine V.iconst g0 d_L_areAlike_157 ?_
                    refine V.goto g0 d_L_areAlike_158 ?_
                    refine V.is2 g0 d_L_areAlike_162 ?_
                    refine V.inc4 g0 d_L_areAlike_163 ?_
                    refine V.goto g0 d_L_areAlike_166 ?_
                    exact ih4 (f4 - 1) (by omega) (j + 1) (by omega)
              exact LP4 (5 * A.1 (103 * (i : Int) + 8)).toNat 0 (by omega)
            · skip
              refine V.il2 g0 d_L_areAlike_75 ?_
              refine V.ifeq g0 d_L_areAlike_76 (by decide) (fun c_76 => ?_) (fun c_76 => ?_)
              · skip
                exfalso; omega
              · skip
                refine V.al0 g0 d_L_areAlike_79 ?_
                refine V.il3 g0 d_L_areAlike_80 ?_
                refine V.il4 g0 d_L_areAlike_81 ?_
                refine V.callVp g0 (c_X6_passport hXo hXn (by constructor <;> omega) (by constructor <;> omega)) ky_X6_passport ki_X6_passport ks2_X6_passport lk_L_47 hXo rfl rfl (Nat.le_of_ble_eq_true rfl) ⟨Nat.zero_le _, Nat.zero_le _⟩ rfl rfl (Nat.le_of_ble_eq_true rfl) d_L_areAlike_83 ?_
                refine V.al1 g0 d_L_areAlike_86 ?_
                refine V.il3 g0 d_L_areAlike_87 ?_
                refine V.il4 g0 d_L_areAlike_88 ?_
                refine V.callVp g0 (c_X6_passport hYo hYn (by constructor <;> omega) (by constructor <;> omega)) ky_X6_passport ki_X6_passport ks2_X6_passport lk_L_47 hYo rfl rfl (Nat.le_of_ble_eq_true rfl) ⟨Nat.zero_le _, Nat.zero_le _⟩ rfl rfl (Nat.le_of_ble_eq_true rfl) d_L_areAlike_90 ?_
                refine V.sameNe g0 d_L_areAlike_93 ?_
                refine V.iconst g0 d_L_areAlike_96 ?_
                refine V.goto g0 d_L_areAlike_97 ?_
                refine V.is2 g0 d_L_areAlike_101 ?_
                refine V.inc4 g0 d_L_areAlike_102 ?_
                refine V.goto g0 d_L_areAlike_105 ?_
                exact ih3 (f3 - 1) (by omega) (j + 1) (by omega)
          exact LP3 9 0 (by omega)
      exact V.weak2 (LP2 (A.1 619).toNat 0 (by omega)) (lcLe_s (lcLe_s (lcLe_s (lcLe_s (lcLe_f lcLe_n)))))
    · skip
      refine V.il2 g0 d_L_areAlike_25 ?_
      refine V.ifeq g0 d_L_areAlike_26 (by decide) (fun c_26 => ?_) (fun c_26 => ?_)
      · skip
        exfalso; omega
      · skip
        refine V.al0 g0 d_L_areAlike_29 ?_
        refine V.il3 g0 d_L_areAlike_30 ?_
        refine V.callVp g0 (MT.ans (q6_count hX (by constructor <;> omega)) (cntS (by omega))) ky_X6_count ki_X6_count ks2_X6_count lk_L_14 hXo rfl rfl (Nat.le_of_ble_eq_true rfl) ⟨Nat.zero_le _, Nat.zero_le _⟩ rfl rfl (Nat.le_of_ble_eq_true rfl) d_L_areAlike_31 ?_
        refine V.al1 g0 d_L_areAlike_34 ?_
        refine V.il3 g0 d_L_areAlike_35 ?_
        refine V.callVp g0 (MT.ans (q6_count hY (by constructor <;> omega)) ((cntS (by omega)).trans (by rw [hs]))) ky_X6_count ki_X6_count ks2_X6_count lk_L_14 hYo rfl rfl (Nat.le_of_ble_eq_true rfl) ⟨Nat.zero_le _, Nat.zero_le _⟩ rfl rfl (Nat.le_of_ble_eq_true rfl) d_L_areAlike_36 ?_
        refine V.sameNe g0 d_L_areAlike_39 ?_
        refine V.iconst g0 d_L_areAlike_42 ?_
        refine V.goto g0 d_L_areAlike_43 ?_
        refine V.is2 g0 d_L_areAlike_47 ?_
        refine V.inc3 g0 d_L_areAlike_48 ?_
        refine V.goto g0 d_L_areAlike_51 ?_
        exact V.weak2 (ih1 (f1 - 1) (by omega) (i + 1) (by omega)) (lcLe_s (lcLe_s (lcLe_s (lcLe_s (lcLe_f lcLe_n)))))
  exact LP1 10 0 (by omega)
