theorem d_J6_bitCount_0f7a4_0 : Dc cJ6_bitCount_0f7a4 0 1 1 (.iload_n 0) := ⟨by decide +kernel, rfl⟩
theorem d_J6_bitCount_0f7a4_1 : Dc cJ6_bitCount_0f7a4 1 1 2 (.iload_n 0) := ⟨by decide +kernel, rfl⟩
theorem d_J6_bitCount_0f7a4_2 : Dc cJ6_bitCount_0f7a4 2 1 3 (.iconst 1) := ⟨by decide +kernel, rfl⟩
theorem d_J6_bitCount_0f7a4_3 : Dc cJ6_bitCount_0f7a4 3 1 4 .iushr := ⟨by decide +kernel, rfl⟩
theorem d_J6_bitCount_0f7a4_4 : Dc cJ6_bitCount_0f7a4 4 3 7 (.ldc_w 265) := ⟨by decide +kernel, rfl⟩
theorem d_J6_bitCount_0f7a4_7 : Dc cJ6_bitCount_0f7a4 7 1 8 .iand := ⟨by decide +kernel, rfl⟩
theorem d_J6_bitCount_0f7a4_8 : Dc cJ6_bitCount_0f7a4 8 1 9 .isub := ⟨by decide +kernel, rfl⟩
theorem d_J6_bitCount_0f7a4_9 : Dc cJ6_bitCount_0f7a4 9 1 10 (.istore_n 0) := ⟨by decide +kernel, rfl⟩
theorem d_J6_bitCount_0f7a4_10 : Dc cJ6_bitCount_0f7a4 10 1 11 (.iload_n 0) := ⟨by decide +kernel, rfl⟩
theorem d_J6_bitCount_0f7a4_11 : Dc cJ6_bitCount_0f7a4 11 3 14 (.ldc_w 266) := ⟨by decide +kernel, rfl⟩
theorem d_J6_bitCount_0f7a4_14 : Dc cJ6_bitCount_0f7a4 14 1 15 .iand := ⟨by decide +kernel, rfl⟩
theorem d_J6_bitCount_0f7a4_15 : Dc cJ6_bitCount_0f7a4 15 1 16 (.iload_n 0) := ⟨by decide +kernel, rfl⟩
theorem d_J6_bitCount_0f7a4_16 : Dc cJ6_bitCount_0f7a4 16 1 17 (.iconst 2) := ⟨by decide +kernel, rfl⟩
theorem d_J6_bitCount_0f7a4_17 : Dc cJ6_bitCount_0f7a4 17 1 18 .iushr := ⟨by decide +kernel, rfl⟩
theorem d_J6_bitCount_0f7a4_18 : Dc cJ6_bitCount_0f7a4 18 3 21 (.ldc_w 266) := ⟨by decide +kernel, rfl⟩
theorem d_J6_bitCount_0f7a4_21 : Dc cJ6_bitCount_0f7a4 21 1 22 .iand := ⟨by decide +kernel, rfl⟩
theorem d_J6_bitCount_0f7a4_22 : Dc cJ6_bitCount_0f7a4 22 1 23 .iadd := ⟨by decide +kernel, rfl⟩
theorem d_J6_bitCount_0f7a4_23 : Dc cJ6_bitCount_0f7a4 23 1 24 (.istore_n 0) := ⟨by decide +kernel, rfl⟩
theorem d_J6_bitCount_0f7a4_24 : Dc cJ6_bitCount_0f7a4 24 1 25 (.iload_n 0) := ⟨by decide +kernel, rfl⟩
theorem d_J6_bitCount_0f7a4_25 : Dc cJ6_bitCount_0f7a4 25 1 26 (.iload_n 0) := ⟨by decide +kernel, rfl⟩
theorem d_J6_bitCount_0f7a4_26 : Dc cJ6_bitCount_0f7a4 26 1 27 (.iconst 4) := ⟨by decide +kernel, rfl⟩
theorem d_J6_bitCount_0f7a4_27 : Dc cJ6_bitCount_0f7a4 27 1 28 .iushr := ⟨by decide +kernel, rfl⟩
theorem d_J6_bitCount_0f7a4_28 : Dc cJ6_bitCount_0f7a4 28 1 29 .iadd := ⟨by decide +kernel, rfl⟩
theorem d_J6_bitCount_0f7a4_29 : Dc cJ6_bitCount_0f7a4 29 3 32 (.ldc_w 267) := ⟨by decide +kernel, rfl⟩
theorem d_J6_bitCount_0f7a4_32 : Dc cJ6_bitCount_0f7a4 32 1 33 .iand := ⟨by decide +kernel, rfl⟩
theorem d_J6_bitCount_0f7a4_33 : Dc cJ6_bitCount_0f7a4 33 1 34 (.istore_n 0) := ⟨by decide +kernel, rfl⟩
theorem d_J6_bitCount_0f7a4_34 : Dc cJ6_bitCount_0f7a4 34 1 35 (.iload_n 0) := ⟨by decide +kernel, rfl⟩
theorem d_J6_bitCount_0f7a4_35 : Dc cJ6_bitCount_0f7a4 35 1 36 (.iload_n 0) := ⟨by decide +kernel, rfl⟩
theorem d_J6_bitCount_0f7a4_36 : Dc cJ6_bitCount_0f7a4 36 2 38 (.bipush 8) := ⟨by decide +kernel, rfl⟩
theorem d_J6_bitCount_0f7a4_38 : Dc cJ6_bitCount_0f7a4 38 1 39 .iushr := ⟨by decide +kernel, rfl⟩
theorem d_J6_bitCount_0f7a4_39 : Dc cJ6_bitCount_0f7a4 39 1 40 .iadd := ⟨by decide +kernel, rfl⟩
theorem d_J6_bitCount_0f7a4_40 : Dc cJ6_bitCount_0f7a4 40 1 41 (.istore_n 0) := ⟨by decide +kernel, rfl⟩
theorem d_J6_bitCount_0f7a4_41 : Dc cJ6_bitCount_0f7a4 41 1 42 (.iload_n 0) := ⟨by decide +kernel, rfl⟩
theorem d_J6_bitCount_0f7a4_42 : Dc cJ6_bitCount_0f7a4 42 1 43 (.iload_n 0) := ⟨by decide +kernel, rfl⟩
theorem d_J6_bitCount_0f7a4_43 : Dc cJ6_bitCount_0f7a4 43 2 45 (.bipush 16) := ⟨by decide +kernel, rfl⟩
theorem d_J6_bitCount_0f7a4_45 : Dc cJ6_bitCount_0f7a4 45 1 46 .iushr := ⟨by decide +kernel, rfl⟩
theorem d_J6_bitCount_0f7a4_46 : Dc cJ6_bitCount_0f7a4 46 1 47 .iadd := ⟨by decide +kernel, rfl⟩
theorem d_J6_bitCount_0f7a4_47 : Dc cJ6_bitCount_0f7a4 47 1 48 (.istore_n 0) := ⟨by decide +kernel, rfl⟩
theorem d_J6_bitCount_0f7a4_48 : Dc cJ6_bitCount_0f7a4 48 1 49 (.iload_n 0) := ⟨by decide +kernel, rfl⟩
theorem d_J6_bitCount_0f7a4_49 : Dc cJ6_bitCount_0f7a4 49 2 51 (.bipush 63) := ⟨by decide +kernel, rfl⟩
theorem d_J6_bitCount_0f7a4_51 : Dc cJ6_bitCount_0f7a4 51 1 52 .iand := ⟨by decide +kernel, rfl⟩
theorem d_J6_bitCount_0f7a4_52 : decode cJ6_bitCount_0f7a4 52 = .ok (.ireturn, 1) := by decide +kernel
set_option maxHeartbeats 4000000 in
set_option maxRecDepth 20000 in
theorem c_J6_bitCount_0f7a4 {E : Ev} {n : Nat} {M : Mem} {z : Int} (hz : 0 ≤ z ∧ z ≤ 3) : MT E yJ6_bitCount_0f7a4 cJ6_bitCount_0f7a4 1 (some .int) 0 0 0 [.int (iI z)] n M ((PF (some (.int (iI (z % 2 + z / 2)))) n (M))) := by
  refine MT.ofJ (by decide +kernel) rfl (Nat.le_of_ble_eq_true rfl) ?_
  intro X g
  have g0 := g.1
  show V E X 0 0 n M 0 [some (.int (iI z))] []
  refine V.il0 g0 d_J6_bitCount_0f7a4_0 ?_
  refine V.il0 g0 d_J6_bitCount_0f7a4_1 ?_
  refine V.iconst g0 d_J6_bitCount_0f7a4_2 ?_
  refine V.iushr g0 d_J6_bitCount_0f7a4_3 rfl ?_
  refine V.ldcw (v := 1431655765) g0 d_J6_bitCount_0f7a4_4 (tb_in (List.mem_of_getElem? (i := 412) (by decide +kernel)) rfl) ?_
  refine V.iandR g0 d_J6_bitCount_0f7a4_7 ?_
  refine V.isubR g0 d_J6_bitCount_0f7a4_8 ?_
  refine V.is0 g0 d_J6_bitCount_0f7a4_9 ?_
  refine V.il0 g0 d_J6_bitCount_0f7a4_10 ?_
  refine V.ldcw (v := 858993459) g0 d_J6_bitCount_0f7a4_11 (tb_in (List.mem_of_getElem? (i := 413) (by decide +kernel)) rfl) ?_
  refine V.iandR g0 d_J6_bitCount_0f7a4_14 ?_
  refine V.il0 g0 d_J6_bitCount_0f7a4_15 ?_
  refine V.iconst g0 d_J6_bitCount_0f7a4_16 ?_
  refine V.iushr g0 d_J6_bitCount_0f7a4_17 rfl ?_
  refine V.ldcw (v := 858993459) g0 d_J6_bitCount_0f7a4_18 (tb_in (List.mem_of_getElem? (i := 413) (by decide +kernel)) rfl) ?_
  refine V.iandR g0 d_J6_bitCount_0f7a4_21 ?_
  refine V.iaddR g0 d_J6_bitCount_0f7a4_22 ?_
  refine V.is0 g0 d_J6_bitCount_0f7a4_23 ?_
  refine V.il0 g0 d_J6_bitCount_0f7a4_24 ?_
  refine V.il0 g0 d_J6_bitCount_0f7a4_25 ?_
  refine V.iconst g0 d_J6_bitCount_0f7a4_26 ?_
  refine V.iushr g0 d_J6_bitCount_0f7a4_27 rfl ?_
  refine V.iaddR g0 d_J6_bitCount_0f7a4_28 ?_
  refine V.ldcw (v := 252645135) g0 d_J6_bitCount_0f7a4_29 (tb_in (List.mem_of_getElem? (i := 414) (by decide +kernel)) rfl) ?_
  refine V.iandR g0 d_J6_bitCount_0f7a4_32 ?_
  refine V.is0 g0 d_J6_bitCount_0f7a4_33 ?_
  refine V.il0 g0 d_J6_bitCount_0f7a4_34 ?_
  refine V.il0 g0 d_J6_bitCount_0f7a4_35 ?_
  refine V.bipush g0 d_J6_bitCount_0f7a4_36 (by decide) ?_
  refine V.iushr g0 d_J6_bitCount_0f7a4_38 rfl ?_
  refine V.iaddR g0 d_J6_bitCount_0f7a4_39 ?_
  refine V.is0 g0 d_J6_bitCount_0f7a4_40 ?_
  refine V.il0 g0 d_J6_bitCount_0f7a4_41 ?_
  refine V.il0 g0 d_J6_bitCount_0f7a4_42 ?_
  refine V.bipush g0 d_J6_bitCount_0f7a4_43 (by decide) ?_
  refine V.iushr g0 d_J6_bitCount_0f7a4_45 rfl ?_
  refine V.iaddR g0 d_J6_bitCount_0f7a4_46 ?_
  refine V.is0 g0 d_J6_bitCount_0f7a4_47 ?_
  refine V.il0 g0 d_J6_bitCount_0f7a4_48 ?_
  refine V.bipush g0 d_J6_bitCount_0f7a4_49 (by decide) ?_
  refine V.iandR g0 d_J6_bitCount_0f7a4_51 ?_
  refine V.iret g d_J6_bitCount_0f7a4_52 (Nat.zero_le _) (Nat.zero_le _) ?_
  rcases (show z = 0 ∨ z = 1 ∨ z = 2 ∨ z = 3 by omega) with rfl | rfl | rfl | rfl <;> exact ⟨congrArg (fun q => some (Value.int q)) (by decide +kernel), rfl, rfl⟩
