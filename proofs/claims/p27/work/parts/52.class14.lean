theorem d_X2_closedBorders_0 : Dc cX2_closedBorders 0 1 1 (.aload_n 0) := ⟨by decide +kernel, rfl⟩
theorem d_X2_closedBorders_1 : Dc cX2_closedBorders 1 3 4 (.getfield 28) := ⟨by decide +kernel, rfl⟩
theorem d_X2_closedBorders_4 : Dc cX2_closedBorders 4 3 7 (.invokestatic 40) := ⟨by decide +kernel, rfl⟩
theorem d_X2_closedBorders_7 : decode cX2_closedBorders 7 = .ok (.ireturn, 1) := by decide +kernel
set_option maxHeartbeats 4000000 in
set_option maxRecDepth 20000 in
theorem c_X2_closedBorders {E : Ev} {n : Nat} {M : Mem} {m : Nat} {dy iss fg : Int} {cl : Int64} {C : Nat → HC} (hS : StM E M m dy iss fg cl C) : MT E yX2_closedBorders cX2_closedBorders 1 (some .int) 1 0 0 [.ref m] n M ((PF (some (.int (lbc cl))) n (M))) := by
  refine MT.of (by decide) rfl (Nat.le_of_ble_eq_true rfl) ?_
  intro X g
  have g0 := g.1
  show V E X 0 0 n M 0 [some (.ref m)] []
  have a0 := hS.h0
  have a1 := hS.h1
  refine V.al0 g0 d_X2_closedBorders_0 ?_
  refine V.getf g0 d_X2_closedBorders_1 fl_X2_28 (by assumption) (by rfl) ?_
  refine V.callSp g0 c_J13_bitCount_95d88 ky_J13_bitCount_95d88 ks_J13_bitCount_95d88 lk_X2_40 (Nat.le_of_ble_eq_true rfl) ⟨Nat.zero_le _, Nat.zero_le _⟩ rfl rfl (Nat.le_of_ble_eq_true rfl) d_X2_closedBorders_4 ?_
  refine V.iret g d_X2_closedBorders_7 (Nat.zero_le _) (Nat.zero_le _) ?_
  exact ⟨rfl, rfl, rfl⟩

theorem d_X2_flipBorder_0 : Dc cX2_flipBorder 0 1 1 (.iload_n 1) := ⟨by decide +kernel, rfl⟩
theorem d_X2_flipBorder_1 : Dc cX2_flipBorder 1 3 4 (.invokestatic 46) := ⟨by decide +kernel, rfl⟩
theorem d_X2_flipBorder_4 : Dj cX2_flipBorder 4 7 14 (.ifCond .eq) := ⟨10, by decide +kernel, rfl, by decide⟩
theorem d_X2_flipBorder_7 : Dc cX2_flipBorder 7 1 8 (.iload_n 2) := ⟨by decide +kernel, rfl⟩
theorem d_X2_flipBorder_8 : Dc cX2_flipBorder 8 3 11 (.invokestatic 46) := ⟨by decide +kernel, rfl⟩
theorem d_X2_flipBorder_11 : Dj cX2_flipBorder 11 14 16 (.ifCond .ne) := ⟨5, by decide +kernel, rfl, by decide⟩
theorem d_X2_flipBorder_14 : Dc cX2_flipBorder 14 1 15 (.iconst (-1)) := ⟨by decide +kernel, rfl⟩
theorem d_X2_flipBorder_15 : decode cX2_flipBorder 15 = .ok (.ireturn, 1) := by decide +kernel
theorem d_X2_flipBorder_16 : Dc cX2_flipBorder 16 1 17 (.iload_n 1) := ⟨by decide +kernel, rfl⟩
theorem d_X2_flipBorder_17 : Dc cX2_flipBorder 17 1 18 (.iload_n 2) := ⟨by decide +kernel, rfl⟩
theorem d_X2_flipBorder_18 : Dj cX2_flipBorder 18 21 24 (.if_icmp .ne) := ⟨6, by decide +kernel, rfl, by decide⟩
theorem d_X2_flipBorder_21 : Dc cX2_flipBorder 21 2 23 (.bipush (-2)) := ⟨by decide +kernel, rfl⟩
theorem d_X2_flipBorder_23 : decode cX2_flipBorder 23 = .ok (.ireturn, 1) := by decide +kernel
theorem d_X2_flipBorder_24 : Dc cX2_flipBorder 24 1 25 (.aload_n 0) := ⟨by decide +kernel, rfl⟩
theorem d_X2_flipBorder_25 : Dc cX2_flipBorder 25 1 26 .dup := ⟨by decide +kernel, rfl⟩
theorem d_X2_flipBorder_26 : Dc cX2_flipBorder 26 3 29 (.getfield 28) := ⟨by decide +kernel, rfl⟩
theorem d_X2_flipBorder_29 : Dc cX2_flipBorder 29 1 30 (.iload_n 1) := ⟨by decide +kernel, rfl⟩
theorem d_X2_flipBorder_30 : Dc cX2_flipBorder 30 1 31 (.iload_n 2) := ⟨by decide +kernel, rfl⟩
theorem d_X2_flipBorder_31 : Dc cX2_flipBorder 31 3 34 (.invokestatic 96) := ⟨by decide +kernel, rfl⟩
theorem d_X2_flipBorder_34 : Dc cX2_flipBorder 34 1 35 .lxor := ⟨by decide +kernel, rfl⟩
theorem d_X2_flipBorder_35 : Dc cX2_flipBorder 35 3 38 (.putfield 28) := ⟨by decide +kernel, rfl⟩
theorem d_X2_flipBorder_38 : Dc cX2_flipBorder 38 1 39 (.aload_n 0) := ⟨by decide +kernel, rfl⟩
theorem d_X2_flipBorder_39 : Dc cX2_flipBorder 39 3 42 (.invokevirtual 100) := ⟨by decide +kernel, rfl⟩
theorem d_X2_flipBorder_42 : decode cX2_flipBorder 42 = .ok (.ireturn, 1) := by decide +kernel
set_option maxHeartbeats 4000000 in
set_option maxRecDepth 20000 in
theorem c_X2_flipBorder {E : Ev} {n : Nat} {M : Mem} {m : Nat} {dy iss fg : Int} {cl : Int64} {C : Nat → HC} (hS : StM E M m dy iss fg cl C) {a b : Int} (h1 : rg a) (h2 : rg b) : MT E yX2_flipBorder cX2_flipBorder 3 (some .int) 3 0 0 [.ref m, .int (iI a), .int (iI b)] n M ((PF (some (.int (if ¬ ((0 ≤ a ∧ a ≤ 5) ∧ (0 ≤ b ∧ b ≤ 5)) then iI (-1) else if a = b then iI (-2) else lbc (cl ^^^ brd a b)))) n (if ((0 ≤ a ∧ a ≤ 5) ∧ (0 ≤ b ∧ b ≤ 5)) ∧ a ≠ b then stU E M m dy iss fg (cl ^^^ brd a b) C else M))) := by
  refine MT.of (by decide) rfl (Nat.le_of_ble_eq_true rfl) ?_
  intro X g
  have g0 := g.1
  show V E X 0 0 n M 0 [some (.ref m), some (.int (iI a)), some (.int (iI b))] []
  refine V.eqM (st_id hS).symm ?_
  refine V.il1 g0 d_X2_flipBorder_0 ?_
  refine V.callSNp g0 (c_X6_isCountry h1) ky_X6_isCountry ks_X6_isCountry lk_X2_46 (Nat.le_of_ble_eq_true rfl) ⟨Nat.zero_le _, Nat.zero_le _⟩ rfl rfl (Nat.le_of_ble_eq_true rfl) d_X2_flipBorder_1 ?_
  refine V.ifeqB g0 d_X2_flipBorder_4 (fun c_4 => ?_) (fun c_4 => ?_)
  · skip
    refine V.iconst g0 d_X2_flipBorder_14 ?_
    refine V.iret g d_X2_flipBorder_15 (Nat.zero_le _) (Nat.zero_le _) ?_
    have hA : ¬ ((0 ≤ a ∧ a ≤ 5) ∧ (0 ≤ b ∧ b ≤ 5)) := fun q => c_4 q.1
    rw [if_pos hA, if_neg (fun q => hA q.1)]; exact ⟨rfl, rfl, st_id hS⟩
  · skip
    refine V.il2 g0 d_X2_flipBorder_7 ?_
    refine V.callSNp g0 (c_X6_isCountry h2) ky_X6_isCountry ks_X6_isCountry lk_X2_46 (Nat.le_of_ble_eq_true rfl) ⟨Nat.zero_le _, Nat.zero_le _⟩ rfl rfl (Nat.le_of_ble_eq_true rfl) d_X2_flipBorder_8 ?_
    refine V.ifneB g0 d_X2_flipBorder_11 (fun c_11 => ?_) (fun c_11 => ?_)
    · skip
      refine V.il1 g0 d_X2_flipBorder_16 ?_
      refine V.il2 g0 d_X2_flipBorder_17 ?_
      refine V.icmpne g0 d_X2_flipBorder_18 (by omega) (fun c_18 => ?_) (fun c_18 => ?_)
      · skip
        refine V.al0 g0 d_X2_flipBorder_24 ?_
        refine V.dup g0 d_X2_flipBorder_25 rfl ?_
        refine V.getf g0 d_X2_flipBorder_26 fl_X2_28 (by first | exact st_M.h0 | exact st_M.h1 | assumption) (by rfl) ?_
        refine V.il1 g0 d_X2_flipBorder_29 ?_
        refine V.il2 g0 d_X2_flipBorder_30 ?_
        refine V.callSp g0 (c_X2_borderBit c_4 c_11) ky_X2_borderBit ks_X2_borderBit lk_X2_96 (Nat.le_of_ble_eq_true rfl) ⟨Nat.zero_le _, Nat.zero_le _⟩ rfl rfl (Nat.le_of_ble_eq_true rfl) d_X2_flipBorder_31 ?_
        refine V.lxor g0 d_X2_flipBorder_34 rfl ?_
        refine V.putf g0 d_X2_flipBorder_35 fp_X2_28 (by first | exact st_M.h0 | exact st_M.h1 | assumption) (Nat.le_of_ble_eq_true rfl) rfl rfl ?_
        first | refine V.eqM st_u0 ?_
        refine V.al0 g0 d_X2_flipBorder_38 ?_
        refine V.callVp g0 (c_X2_closedBorders st_M) ky_X2_closedBorders ki_X2_closedBorders ks2_X2_closedBorders lk_X2_100 st_M.h0 rfl rfl (Nat.le_of_ble_eq_true rfl) ⟨Nat.zero_le _, Nat.zero_le _⟩ rfl rfl (Nat.le_of_ble_eq_true rfl) d_X2_flipBorder_39 ?_
        refine V.iret g d_X2_flipBorder_42 (Nat.zero_le _) (Nat.zero_le _) ?_
        rw [if_neg (fun q => q ⟨c_4, c_11⟩), if_neg c_18, if_pos ⟨⟨c_4, c_11⟩, c_18⟩]; exact ⟨rfl, rfl, rfl⟩
      · skip
        refine V.bipush g0 d_X2_flipBorder_21 (by decide) ?_
        refine V.iret g d_X2_flipBorder_23 (Nat.zero_le _) (Nat.zero_le _) ?_
        rw [if_neg (fun q => q ⟨c_4, c_11⟩), if_pos c_18, if_neg (fun q => q.2 c_18)]; exact ⟨rfl, rfl, st_id hS⟩
    · skip
      refine V.iconst g0 d_X2_flipBorder_14 ?_
      refine V.iret g d_X2_flipBorder_15 (Nat.zero_le _) (Nat.zero_le _) ?_
      have hA : ¬ ((0 ≤ a ∧ a ≤ 5) ∧ (0 ≤ b ∧ b ≤ 5)) := fun q => c_11 q.2
      rw [if_pos hA, if_neg (fun q => hA q.1)]; exact ⟨rfl, rfl, st_id hS⟩
