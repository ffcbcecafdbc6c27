theorem d_X3_readDays_0 : Dc cX3_readDays 0 1 1 (.aload_n 0) := ⟨by decide +kernel, rfl⟩
theorem d_X3_readDays_1 : Dc cX3_readDays 1 1 2 (.aload_n 0) := ⟨by decide +kernel, rfl⟩
theorem d_X3_readDays_2 : Dc cX3_readDays 2 1 3 (.iconst 1) := ⟨by decide +kernel, rfl⟩
theorem d_X3_readDays_3 : Dc cX3_readDays 3 2 5 (.bipush 99) := ⟨by decide +kernel, rfl⟩
theorem d_X3_readDays_5 : Dc cX3_readDays 5 3 8 (.invokevirtual 54) := ⟨by decide +kernel, rfl⟩
theorem d_X3_readDays_8 : Dc cX3_readDays 8 3 11 (.putfield 70) := ⟨by decide +kernel, rfl⟩
theorem d_X3_readDays_11 : Dc cX3_readDays 11 1 12 (.aload_n 0) := ⟨by decide +kernel, rfl⟩
theorem d_X3_readDays_12 : Dc cX3_readDays 12 3 15 (.getfield 70) := ⟨by decide +kernel, rfl⟩
theorem d_X3_readDays_15 : Dc cX3_readDays 15 1 16 (.iconst (-1)) := ⟨by decide +kernel, rfl⟩
theorem d_X3_readDays_16 : Dj cX3_readDays 16 19 23 (.if_icmp .eq) := ⟨7, by decide +kernel, rfl, by decide⟩
theorem d_X3_readDays_19 : Dc cX3_readDays 19 1 20 (.iconst 1) := ⟨by decide +kernel, rfl⟩
theorem d_X3_readDays_20 : Dj cX3_readDays 20 23 24 .goto := ⟨4, by decide +kernel, rfl, by decide⟩
theorem d_X3_readDays_23 : Dc cX3_readDays 23 1 24 (.iconst 0) := ⟨by decide +kernel, rfl⟩
theorem d_X3_readDays_24 : decode cX3_readDays 24 = .ok (.ireturn, 1) := by decide +kernel
set_option maxHeartbeats 4000000 in
set_option maxRecDepth 20000 in
theorem c_X3_readDays {E : Ev} {n : Nat} {M : Mem} {m : Nat} {tx : Int → Int} {ln th nx ki pa co fo fr un da : Int} (ht : txB tx ln) (hs : 0 ≤ nx ∧ nx ≤ ln) : MT E yX3_readDays cX3_readDays 1 (some .boolean) 2 0 0 [.ref m] n (xtU E M m tx ln th nx ki pa co fo fr un da) ((PF (some (.int (iI (bI ((rn tx ln nx 1 99).1 ≠ -1))))) n (xtU E M m tx ln th ((rn tx ln nx 1 99).2) ki pa co fo fr un ((rn tx ln nx 1 99).1)))) := by
  refine MT.of (by decide) rfl (Nat.le_of_ble_eq_true rfl) ?_
  intro X g
  have g0 := g.1
  show V E X 0 0 n (xtU E M m tx ln th nx ki pa co fo fr un da) 0 [some (.ref m)] []
  have htx := ht.2
  have hl := ht.1
  have hb := rn_b (tx := tx) (ln := ln) (least := 1) (most := 99) hs (by omega)
  refine V.al0 g0 d_X3_readDays_0 ?_
  refine V.al0 g0 d_X3_readDays_1 ?_
  refine V.iconst g0 d_X3_readDays_2 ?_
  refine V.bipush g0 d_X3_readDays_3 (by decide) ?_
  refine V.callVf g0 (c_X3_readNumber ht hs (by omega) (by omega)) ky_X3_readNumber ki_X3_readNumber ks2_X3_readNumber lk_X3_54 (by first | exact xt_0 | exact xt_1) rfl rfl (Nat.le_of_ble_eq_true rfl) ⟨Nat.zero_le _, Nat.zero_le _⟩ rfl rfl (Nat.le_of_ble_eq_true rfl) d_X3_readDays_5 ?_
  refine V.putf g0 d_X3_readDays_8 fp_X3_70 (by first | exact xt_0 | exact xt_1) (Nat.le_of_ble_eq_true rfl) rfl rfl ?_
  first | refine V.eqM xt_u0 ?_ | refine V.eqM xt_u1 ?_
  refine V.al0 g0 d_X3_readDays_11 ?_
  refine V.getf g0 d_X3_readDays_12 fl_X3_70 (by first | exact xt_0 | exact xt_1) (by rfl) ?_
  refine V.iconst g0 d_X3_readDays_15 ?_
  refine V.icmpeq g0 d_X3_readDays_16 (by omega) (fun c_16 => ?_) (fun c_16 => ?_)
  · skip
    refine V.iconst g0 d_X3_readDays_23 ?_
    refine V.zret g d_X3_readDays_24 (by first | exact Or.inl rfl | exact Or.inr rfl | exact bI_01 _) (Nat.zero_le _) (Nat.zero_le _) ?_
    rw [bI_f (fun q => q c_16)]; exact ⟨rfl, rfl, rfl⟩
  · skip
    refine V.iconst g0 d_X3_readDays_19 ?_
    refine V.goto g0 d_X3_readDays_20 ?_
    refine V.zret g d_X3_readDays_24 (by first | exact Or.inl rfl | exact Or.inr rfl | exact bI_01 _) (Nat.zero_le _) (Nat.zero_le _) ?_
    rw [bI_t c_16]; exact ⟨rfl, rfl, rfl⟩

theorem d_X3_readPassportAndCountry_0 : Dc cX3_readPassportAndCountry 0 1 1 (.aload_n 0) := ⟨by decide +kernel, rfl⟩
theorem d_X3_readPassportAndCountry_1 : Dc cX3_readPassportAndCountry 1 1 2 (.aload_n 0) := ⟨by decide +kernel, rfl⟩
theorem d_X3_readPassportAndCountry_2 : Dc cX3_readPassportAndCountry 2 1 3 (.iconst 0) := ⟨by decide +kernel, rfl⟩
theorem d_X3_readPassportAndCountry_3 : Dc cX3_readPassportAndCountry 3 1 4 (.iconst 5) := ⟨by decide +kernel, rfl⟩
theorem d_X3_readPassportAndCountry_4 : Dc cX3_readPassportAndCountry 4 3 7 (.invokevirtual 54) := ⟨by decide +kernel, rfl⟩
theorem d_X3_readPassportAndCountry_7 : Dc cX3_readPassportAndCountry 7 3 10 (.putfield 64) := ⟨by decide +kernel, rfl⟩
theorem d_X3_readPassportAndCountry_10 : Dc cX3_readPassportAndCountry 10 1 11 (.aload_n 0) := ⟨by decide +kernel, rfl⟩
theorem d_X3_readPassportAndCountry_11 : Dc cX3_readPassportAndCountry 11 3 14 (.getfield 64) := ⟨by decide +kernel, rfl⟩
theorem d_X3_readPassportAndCountry_14 : Dc cX3_readPassportAndCountry 14 1 15 (.iconst (-1)) := ⟨by decide +kernel, rfl⟩
theorem d_X3_readPassportAndCountry_15 : Dj cX3_readPassportAndCountry 15 18 20 (.if_icmp .ne) := ⟨5, by decide +kernel, rfl, by decide⟩
theorem d_X3_readPassportAndCountry_18 : Dc cX3_readPassportAndCountry 18 1 19 (.iconst 0) := ⟨by decide +kernel, rfl⟩
theorem d_X3_readPassportAndCountry_19 : decode cX3_readPassportAndCountry 19 = .ok (.ireturn, 1) := by decide +kernel
theorem d_X3_readPassportAndCountry_20 : Dc cX3_readPassportAndCountry 20 1 21 (.aload_n 0) := ⟨by decide +kernel, rfl⟩
theorem d_X3_readPassportAndCountry_21 : Dc cX3_readPassportAndCountry 21 1 22 (.aload_n 0) := ⟨by decide +kernel, rfl⟩
theorem d_X3_readPassportAndCountry_22 : Dc cX3_readPassportAndCountry 22 1 23 (.iconst 0) := ⟨by decide +kernel, rfl⟩
theorem d_X3_readPassportAndCountry_23 : Dc cX3_readPassportAndCountry 23 1 24 (.iconst 5) := ⟨by decide +kernel, rfl⟩
theorem d_X3_readPassportAndCountry_24 : Dc cX3_readPassportAndCountry 24 3 27 (.invokevirtual 54) := ⟨by decide +kernel, rfl⟩
theorem d_X3_readPassportAndCountry_27 : Dc cX3_readPassportAndCountry 27 3 30 (.putfield 67) := ⟨by decide +kernel, rfl⟩
theorem d_X3_readPassportAndCountry_30 : Dc cX3_readPassportAndCountry 30 1 31 (.aload_n 0) := ⟨by decide +kernel, rfl⟩
theorem d_X3_readPassportAndCountry_31 : Dc cX3_readPassportAndCountry 31 3 34 (.getfield 67) := ⟨by decide +kernel, rfl⟩
theorem d_X3_readPassportAndCountry_34 : Dc cX3_readPassportAndCountry 34 1 35 (.iconst (-1)) := ⟨by decide +kernel, rfl⟩
theorem d_X3_readPassportAndCountry_35 : Dj cX3_readPassportAndCountry 35 38 42 (.if_icmp .eq) := ⟨7, by decide +kernel, rfl, by decide⟩
theorem d_X3_readPassportAndCountry_38 : Dc cX3_readPassportAndCountry 38 1 39 (.iconst 1) := ⟨by decide +kernel, rfl⟩
theorem d_X3_readPassportAndCountry_39 : Dj cX3_readPassportAndCountry 39 42 43 .goto := ⟨4, by decide +kernel, rfl, by decide⟩
theorem d_X3_readPassportAndCountry_42 : Dc cX3_readPassportAndCountry 42 1 43 (.iconst 0) := ⟨by decide +kernel, rfl⟩
theorem d_X3_readPassportAndCountry_43 : decode cX3_readPassportAndCountry 43 = .ok (.ireturn, 1) := by decide +kernel
set_option maxHeartbeats 4000000 in
set_option maxRecDepth 20000 in
theorem c_X3_readPassportAndCountry {E : Ev} {n : Nat} {M : Mem} {m : Nat} {tx : Int → Int} {ln th nx ki pa co fo fr un da : Int} (ht : txB tx ln) (hs : 0 ≤ nx ∧ nx ≤ ln) : MT E yX3_readPassportAndCountry cX3_readPassportAndCountry 1 (some .boolean) 2 0 0 [.ref m] n (xtU E M m tx ln th nx ki pa co fo fr un da) ((PF (some (.int (iI (bI (nxt tx ln nx 0 48 53 ∧ nxt tx ln (nx + 1) 0 48 53))))) n (xtU E M m tx ln th (nx + bI (nxt tx ln nx 0 48 53) + bI (nxt tx ln nx 0 48 53 ∧ nxt tx ln (nx + 1) 0 48 53)) ki (d5 tx ln nx) (if nxt tx ln nx 0 48 53 then d5 tx ln (nx + 1) else co) fo fr un da))) := by
  refine MT.of (by decide) rfl (Nat.le_of_ble_eq_true rfl) ?_
  intro X g
  have g0 := g.1
  show V E X 0 0 n (xtU E M m tx ln th nx ki pa co fo fr un da) 0 [some (.ref m)] []
  have htx := ht.2
  have hl := ht.1
  have hb := d5_b (tx := tx) (ln := ln) (sp := nx)
  have hb2 := d5_b (tx := tx) (ln := ln) (sp := nx + 1)
  refine V.al0 g0 d_X3_readPassportAndCountry_0 ?_
  refine V.al0 g0 d_X3_readPassportAndCountry_1 ?_
  refine V.iconst g0 d_X3_readPassportAndCountry_2 ?_
  refine V.iconst g0 d_X3_readPassportAndCountry_3 ?_
  refine V.callVf g0 (c_X3_readNumber ht hs (by omega) (by omega)) ky_X3_readNumber ki_X3_readNumber ks2_X3_readNumber lk_X3_54 (by first | exact xt_0 | exact xt_1) rfl rfl (Nat.le_of_ble_eq_true rfl) ⟨Nat.zero_le _, Nat.zero_le _⟩ rfl rfl (Nat.le_of_ble_eq_true rfl) d_X3_readPassportAndCountry_4 ?_
  rw [rn5]
  dsimp only
  refine V.putf g0 d_X3_readPassportAndCountry_7 fp_X3_64 (by first | exact xt_0 | exact xt_1) (Nat.le_of_ble_eq_true rfl) rfl rfl ?_
  first | refine V.eqM xt_u0 ?_ | refine V.eqM xt_u1 ?_
  refine V.al0 g0 d_X3_readPassportAndCountry_10 ?_
  refine V.getf g0 d_X3_readPassportAndCountry_11 fl_X3_64 (by first | exact xt_0 | exact xt_1) (by rfl) ?_
  refine V.iconst g0 d_X3_readPassportAndCountry_14 ?_
  refine V.icmpne g0 d_X3_readPassportAndCountry_15 (by omega) (fun c_15 => ?_) (fun c_15 => ?_)
  · skip
    have hA := d5_y c_15
    rw [bI_t hA]
    refine V.al0 g0 d_X3_readPassportAndCountry_20 ?_
    refine V.al0 g0 d_X3_readPassportAndCountry_21 ?_
    refine V.iconst g0 d_X3_readPassportAndCountry_22 ?_
    refine V.iconst g0 d_X3_readPassportAndCountry_23 ?_
    refine V.callVf g0 (c_X3_readNumber ht (by have := hA.2.1; omega) (by omega) (by omega)) ky_X3_readNumber ki_X3_readNumber ks2_X3_readNumber lk_X3_54 (by first | exact xt_0 | exact xt_1) rfl rfl (Nat.le_of_ble_eq_true rfl) ⟨Nat.zero_le _, Nat.zero_le _⟩ rfl rfl (Nat.le_of_ble_eq_true rfl) d_X3_readPassportAndCountry_24 ?_
    rw [rn5]
    dsimp only
    refine V.putf g0 d_X3_readPassportAndCountry_27 fp_X3_67 (by first | exact xt_0 | exact xt_1) (Nat.le_of_ble_eq_true rfl) rfl rfl ?_
    first | refine V.eqM xt_u0 ?_ | refine V.eqM xt_u1 ?_
    refine V.al0 g0 d_X3_readPassportAndCountry_30 ?_
    refine V.getf g0 d_X3_readPassportAndCountry_31 fl_X3_67 (by first | exact xt_0 | exact xt_1) (by rfl) ?_
    refine V.iconst g0 d_X3_readPassportAndCountry_34 ?_
    refine V.icmpeq g0 d_X3_readPassportAndCountry_35 (by omega) (fun c_35 => ?_) (fun c_35 => ?_)
    · skip
      have hB := d5_n c_35
      refine V.iconst g0 d_X3_readPassportAndCountry_42 ?_
      refine V.zret g d_X3_readPassportAndCountry_43 (by first | exact Or.inl rfl | exact Or.inr rfl | exact bI_01 _) (Nat.zero_le _) (Nat.zero_le _) ?_
      rw [bI_t hA, if_pos hA, bI_f hB, bI_f (fun q => hB q.2)]; exact ⟨rfl, rfl, rfl⟩
    · skip
      have hB := d5_y c_35
      refine V.iconst g0 d_X3_readPassportAndCountry_38 ?_
      refine V.goto g0 d_X3_readPassportAndCountry_39 ?_
      refine V.zret g d_X3_readPassportAndCountry_43 (by first | exact Or.inl rfl | exact Or.inr rfl | exact bI_01 _) (Nat.zero_le _) (Nat.zero_le _) ?_
      rw [bI_t hA, if_pos hA, bI_t hB, bI_t ⟨hA, hB⟩]; exact ⟨rfl, rfl, rfl⟩
  · skip
    have hA := d5_n c_15
    refine V.iconst g0 d_X3_readPassportAndCountry_18 ?_
    refine V.zret g d_X3_readPassportAndCountry_19 (by first | exact Or.inl rfl | exact Or.inr rfl | exact bI_01 _) (Nat.zero_le _) (Nat.zero_le _) ?_
    rw [bI_f hA, bI_f (fun q => hA q.1), if_neg hA, Int.add_zero, Int.add_zero]; exact ⟨rfl, rfl, rfl⟩
