theorem d_X3_readCrossing_0 : Dc cX3_readCrossing 0 1 1 (.aload_n 0) := ⟨by decide +kernel, rfl⟩
theorem d_X3_readCrossing_1 : Dc cX3_readCrossing 1 3 4 (.invokevirtual 48) := ⟨by decide +kernel, rfl⟩
theorem d_X3_readCrossing_4 : Dj cX3_readCrossing 4 7 9 (.ifCond .ne) := ⟨5, by decide +kernel, rfl, by decide⟩
theorem d_X3_readCrossing_7 : Dc cX3_readCrossing 7 1 8 (.iconst 0) := ⟨by decide +kernel, rfl⟩
theorem d_X3_readCrossing_8 : decode cX3_readCrossing 8 = .ok (.ireturn, 1) := by decide +kernel
theorem d_X3_readCrossing_9 : Dc cX3_readCrossing 9 1 10 (.aload_n 0) := ⟨by decide +kernel, rfl⟩
theorem d_X3_readCrossing_10 : Dc cX3_readCrossing 10 1 11 (.aload_n 0) := ⟨by decide +kernel, rfl⟩
theorem d_X3_readCrossing_11 : Dc cX3_readCrossing 11 2 13 (.bipush 33) := ⟨by decide +kernel, rfl⟩
theorem d_X3_readCrossing_13 : Dc cX3_readCrossing 13 3 16 (.invokevirtual 32) := ⟨by decide +kernel, rfl⟩
theorem d_X3_readCrossing_16 : Dj cX3_readCrossing 16 19 23 (.ifCond .eq) := ⟨7, by decide +kernel, rfl, by decide⟩
theorem d_X3_readCrossing_19 : Dc cX3_readCrossing 19 1 20 (.iconst 1) := ⟨by decide +kernel, rfl⟩
theorem d_X3_readCrossing_20 : Dj cX3_readCrossing 20 23 24 .goto := ⟨4, by decide +kernel, rfl, by decide⟩
theorem d_X3_readCrossing_23 : Dc cX3_readCrossing 23 1 24 (.iconst 0) := ⟨by decide +kernel, rfl⟩
theorem d_X3_readCrossing_24 : Dc cX3_readCrossing 24 3 27 (.putfield 51) := ⟨by decide +kernel, rfl⟩
theorem d_X3_readCrossing_27 : Dc cX3_readCrossing 27 1 28 (.aload_n 0) := ⟨by decide +kernel, rfl⟩
theorem d_X3_readCrossing_28 : Dc cX3_readCrossing 28 2 30 (.bipush 63) := ⟨by decide +kernel, rfl⟩
theorem d_X3_readCrossing_30 : Dc cX3_readCrossing 30 3 33 (.invokevirtual 32) := ⟨by decide +kernel, rfl⟩
theorem d_X3_readCrossing_33 : Dj cX3_readCrossing 33 36 46 (.ifCond .eq) := ⟨13, by decide +kernel, rfl, by decide⟩
theorem d_X3_readCrossing_36 : Dc cX3_readCrossing 36 1 37 (.aload_n 0) := ⟨by decide +kernel, rfl⟩
theorem d_X3_readCrossing_37 : Dc cX3_readCrossing 37 1 38 .dup := ⟨by decide +kernel, rfl⟩
theorem d_X3_readCrossing_38 : Dc cX3_readCrossing 38 3 41 (.getfield 51) := ⟨by decide +kernel, rfl⟩
theorem d_X3_readCrossing_41 : Dc cX3_readCrossing 41 1 42 (.iconst 2) := ⟨by decide +kernel, rfl⟩
theorem d_X3_readCrossing_42 : Dc cX3_readCrossing 42 1 43 .ior := ⟨by decide +kernel, rfl⟩
theorem d_X3_readCrossing_43 : Dc cX3_readCrossing 43 3 46 (.putfield 51) := ⟨by decide +kernel, rfl⟩
theorem d_X3_readCrossing_46 : Dc cX3_readCrossing 46 1 47 (.iconst 1) := ⟨by decide +kernel, rfl⟩
theorem d_X3_readCrossing_47 : decode cX3_readCrossing 47 = .ok (.ireturn, 1) := by decide +kernel
set_option maxHeartbeats 4000000 in
set_option maxRecDepth 20000 in
theorem c_X3_readCrossing {E : Ev} {n : Nat} {M : Mem} {m : Nat} {tx : Int → Int} {ln th nx ki pa co fo fr un da : Int} (ht : txB tx ln) (hs : 0 ≤ nx ∧ nx ≤ ln) : MT E yX3_readCrossing cX3_readCrossing 1 (some .boolean) 3 0 0 [.ref m] n (xtU E M m tx ln th nx ki pa co fo fr un da) ((PF (some (.int (iI (bI (nxt tx ln nx 0 48 53 ∧ nxt tx ln (nx + 1) 0 48 53))))) n (if (nxt tx ln nx 0 48 53 ∧ nxt tx ln (nx + 1) 0 48 53) then xtU E M m tx ln th (nx + 2 + bI (nxt tx ln (nx + 2) 0 33 33) + bI (nxt tx ln (nx + 2 + bI (nxt tx ln (nx + 2) 0 33 33)) 0 63 63)) ki (d5 tx ln nx) (d5 tx ln (nx + 1)) (bI (nxt tx ln (nx + 2) 0 33 33) + 2 * bI (nxt tx ln (nx + 2 + bI (nxt tx ln (nx + 2) 0 33 33)) 0 63 63)) fr un da else xtU E M m tx ln th (nx + bI (nxt tx ln nx 0 48 53) + bI (nxt tx ln nx 0 48 53 ∧ nxt tx ln (nx + 1) 0 48 53)) ki (d5 tx ln nx) (if nxt tx ln nx 0 48 53 then d5 tx ln (nx + 1) else co) fo fr un da))) := by
  refine MT.of (by decide) rfl (Nat.le_of_ble_eq_true rfl) ?_
  intro X g
  have g0 := g.1
  show V E X 0 0 n (xtU E M m tx ln th nx ki pa co fo fr un da) 0 [some (.ref m)] []
  have htx := ht.2
  have hl := ht.1
  refine V.al0 g0 d_X3_readCrossing_0 ?_
  refine V.callVf g0 (c_X3_readPassportAndCountry ht hs) ky_X3_readPassportAndCountry ki_X3_readPassportAndCountry ks2_X3_readPassportAndCountry lk_X3_48 (by first | exact xt_0 | exact xt_1) rfl rfl (Nat.le_of_ble_eq_true rfl) ⟨Nat.zero_le _, Nat.zero_le _⟩ rfl rfl (Nat.le_of_ble_eq_true rfl) d_X3_readCrossing_1 ?_
  refine V.ifneB g0 d_X3_readCrossing_4 (fun c_4 => ?_) (fun c_4 => ?_)
  · skip
    have hln := c_4.2.2.1
    rw [bI_t c_4.1, bI_t c_4, if_pos c_4.1, show nx + 1 + 1 = nx + 2 by omega]
    have t33 := tkS_b (tx := tx) (ln := ln) (sp := nx + 2) (wr := 0) (lo := 33) (hi := 33) (by omega)
    rw [show tkS tx ln (nx + 2) 0 33 33 = nx + 2 + bI (nxt tx ln (nx + 2) 0 33 33) from rfl] at t33
    refine V.al0 g0 d_X3_readCrossing_9 ?_
    refine V.al0 g0 d_X3_readCrossing_10 ?_
    refine V.bipush g0 d_X3_readCrossing_11 (by decide) ?_
    refine V.callVf g0 (c_X3_take ht (by omega) (by decide)) ky_X3_take ki_X3_take ks2_X3_take lk_X3_32 (by first | exact xt_0 | exact xt_1) rfl rfl (Nat.le_of_ble_eq_true rfl) ⟨Nat.zero_le _, Nat.zero_le _⟩ rfl rfl (Nat.le_of_ble_eq_true rfl) d_X3_readCrossing_13 ?_
    refine V.ifeqB g0 d_X3_readCrossing_16 (fun c_16 => ?_) (fun c_16 => ?_)
    · skip
      refine V.iconst g0 d_X3_readCrossing_23 ?_
      refine V.putf g0 d_X3_readCrossing_24 fp_X3_51 (by first | exact xt_0 | exact xt_1) (Nat.le_of_ble_eq_true rfl) rfl rfl ?_
      first | refine V.eqM xt_u0 ?_ | refine V.eqM xt_u1 ?_
      refine V.al0 g0 d_X3_readCrossing_27 ?_
      refine V.bipush g0 d_X3_readCrossing_28 (by decide) ?_
      refine V.callVf g0 (c_X3_take ht (by omega) (by decide)) ky_X3_take ki_X3_take ks2_X3_take lk_X3_32 (by first | exact xt_0 | exact xt_1) rfl rfl (Nat.le_of_ble_eq_true rfl) ⟨Nat.zero_le _, Nat.zero_le _⟩ rfl rfl (Nat.le_of_ble_eq_true rfl) d_X3_readCrossing_30 ?_
      refine V.ifeqB g0 d_X3_readCrossing_33 (fun c_33 => ?_) (fun c_33 => ?_)
      · skip
        refine V.iconst g0 d_X3_readCrossing_46 ?_
        refine V.zret g d_X3_readCrossing_47 (by first | exact Or.inl rfl | exact Or.inr rfl | exact bI_01 _) (Nat.zero_le _) (Nat.zero_le _) ?_
        have e1 : bI (nxt tx ln (nx + 2) 0 33 33) = 0 := bI_f c_16
        have e2 : bI (nxt tx ln (nx + 2 + bI (nxt tx ln (nx + 2) 0 33 33)) 0 63 63) = 0 := bI_f c_33
        have ef : bI (nxt tx ln (nx + 2) 0 33 33) + 2 * bI (nxt tx ln (nx + 2 + bI (nxt tx ln (nx + 2) 0 33 33)) 0 63 63) = 0 := by omega
        rw [if_pos c_4, ef]; exact ⟨by rw [bI_t c_4], rfl, rfl⟩
      · skip
        refine V.al0 g0 d_X3_readCrossing_36 ?_
        refine V.dup g0 d_X3_readCrossing_37 rfl ?_
        refine V.getf g0 d_X3_readCrossing_38 fl_X3_51 (by first | exact xt_0 | exact xt_1) (by rfl) ?_
        refine V.iconst g0 d_X3_readCrossing_41 ?_
        refine V.ior g0 d_X3_readCrossing_42 (show iI 0 ||| iI 2 = iI 2 from by decide) ?_
        refine V.putf g0 d_X3_readCrossing_43 fp_X3_51 (by first | exact xt_0 | exact xt_1) (Nat.le_of_ble_eq_true rfl) rfl rfl ?_
        first | refine V.eqM xt_u0 ?_ | refine V.eqM xt_u1 ?_
        refine V.iconst g0 d_X3_readCrossing_46 ?_
        refine V.zret g d_X3_readCrossing_47 (by first | exact Or.inl rfl | exact Or.inr rfl | exact bI_01 _) (Nat.zero_le _) (Nat.zero_le _) ?_
        have e1 : bI (nxt tx ln (nx + 2) 0 33 33) = 0 := bI_f c_16
        have e2 : bI (nxt tx ln (nx + 2 + bI (nxt tx ln (nx + 2) 0 33 33)) 0 63 63) = 1 := bI_t c_33
        have ef : bI (nxt tx ln (nx + 2) 0 33 33) + 2 * bI (nxt tx ln (nx + 2 + bI (nxt tx ln (nx + 2) 0 33 33)) 0 63 63) = 2 := by omega
        rw [if_pos c_4, ef]; exact ⟨by rw [bI_t c_4], rfl, rfl⟩
    · skip
      refine V.iconst g0 d_X3_readCrossing_19 ?_
      refine V.goto g0 d_X3_readCrossing_20 ?_
      refine V.putf g0 d_X3_readCrossing_24 fp_X3_51 (by first | exact xt_0 | exact xt_1) (Nat.le_of_ble_eq_true rfl) rfl rfl ?_
      first | refine V.eqM xt_u0 ?_ | refine V.eqM xt_u1 ?_
      refine V.al0 g0 d_X3_readCrossing_27 ?_
      refine V.bipush g0 d_X3_readCrossing_28 (by decide) ?_
      refine V.callVf g0 (c_X3_take ht (by omega) (by decide)) ky_X3_take ki_X3_take ks2_X3_take lk_X3_32 (by first | exact xt_0 | exact xt_1) rfl rfl (Nat.le_of_ble_eq_true rfl) ⟨Nat.zero_le _, Nat.zero_le _⟩ rfl rfl (Nat.le_of_ble_eq_true rfl) d_X3_readCrossing_30 ?_
      refine V.ifeqB g0 d_X3_readCrossing_33 (fun c_33 => ?_) (fun c_33 => ?_)
      · skip
        refine V.iconst g0 d_X3_readCrossing_46 ?_
        refine V.zret g d_X3_readCrossing_47 (by first | exact Or.inl rfl | exact Or.inr rfl | exact bI_01 _) (Nat.zero_le _) (Nat.zero_le _) ?_
        have e1 : bI (nxt tx ln (nx + 2) 0 33 33) = 1 := bI_t c_16
        have e2 : bI (nxt tx ln (nx + 2 + bI (nxt tx ln (nx + 2) 0 33 33)) 0 63 63) = 0 := bI_f c_33
        have ef : bI (nxt tx ln (nx + 2) 0 33 33) + 2 * bI (nxt tx ln (nx + 2 + bI (nxt tx ln (nx + 2) 0 33 33)) 0 63 63) = 1 := by omega
        rw [if_pos c_4, ef]; exact ⟨by rw [bI_t c_4], rfl, rfl⟩
      · skip
        refine V.al0 g0 d_X3_readCrossing_36 ?_
        refine V.dup g0 d_X3_readCrossing_37 rfl ?_
        refine V.getf g0 d_X3_readCrossing_38 fl_X3_51 (by first | exact xt_0 | exact xt_1) (by rfl) ?_
        refine V.iconst g0 d_X3_readCrossing_41 ?_
        refine V.ior g0 d_X3_readCrossing_42 (show iI 1 ||| iI 2 = iI 3 from by decide) ?_
        refine V.putf g0 d_X3_readCrossing_43 fp_X3_51 (by first | exact xt_0 | exact xt_1) (Nat.le_of_ble_eq_true rfl) rfl rfl ?_
        first | refine V.eqM xt_u0 ?_ | refine V.eqM xt_u1 ?_
        refine V.iconst g0 d_X3_readCrossing_46 ?_
        refine V.zret g d_X3_readCrossing_47 (by first | exact Or.inl rfl | exact Or.inr rfl | exact bI_01 _) (Nat.zero_le _) (Nat.zero_le _) ?_
        have e1 : bI (nxt tx ln (nx + 2) 0 33 33) = 1 := bI_t c_16
        have e2 : bI (nxt tx ln (nx + 2 + bI (nxt tx ln (nx + 2) 0 33 33)) 0 63 63) = 1 := bI_t c_33
        have ef : bI (nxt tx ln (nx + 2) 0 33 33) + 2 * bI (nxt tx ln (nx + 2 + bI (nxt tx ln (nx + 2) 0 33 33)) 0 63 63) = 3 := by omega
        rw [if_pos c_4, ef]; exact ⟨by rw [bI_t c_4], rfl, rfl⟩
  · skip
    refine V.iconst g0 d_X3_readCrossing_7 ?_
    refine V.zret g d_X3_readCrossing_8 (by first | exact Or.inl rfl | exact Or.inr rfl | exact bI_01 _) (Nat.zero_le _) (Nat.zero_le _) ?_
    rw [if_neg c_4]; exact ⟨by rw [bI_f c_4], rfl, rfl⟩
