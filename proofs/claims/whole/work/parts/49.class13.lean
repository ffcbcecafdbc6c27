theorem d_X3_readVisa_0 : Dc cX3_readVisa 0 1 1 (.aload_n 0) := ⟨by decide +kernel, rfl⟩
theorem d_X3_readVisa_1 : Dc cX3_readVisa 1 3 4 (.invokevirtual 48) := ⟨by decide +kernel, rfl⟩
theorem d_X3_readVisa_4 : Dj cX3_readVisa 4 7 16 (.ifCond .eq) := ⟨12, by decide +kernel, rfl, by decide⟩
theorem d_X3_readVisa_7 : Dc cX3_readVisa 7 1 8 (.aload_n 0) := ⟨by decide +kernel, rfl⟩
theorem d_X3_readVisa_8 : Dc cX3_readVisa 8 2 10 (.bipush 58) := ⟨by decide +kernel, rfl⟩
theorem d_X3_readVisa_10 : Dc cX3_readVisa 10 3 13 (.invokevirtual 32) := ⟨by decide +kernel, rfl⟩
theorem d_X3_readVisa_13 : Dj cX3_readVisa 13 16 18 (.ifCond .ne) := ⟨5, by decide +kernel, rfl, by decide⟩
theorem d_X3_readVisa_16 : Dc cX3_readVisa 16 1 17 (.iconst 0) := ⟨by decide +kernel, rfl⟩
theorem d_X3_readVisa_17 : decode cX3_readVisa 17 = .ok (.ireturn, 1) := by decide +kernel
theorem d_X3_readVisa_18 : Dc cX3_readVisa 18 1 19 (.aload_n 0) := ⟨by decide +kernel, rfl⟩
theorem d_X3_readVisa_19 : Dc cX3_readVisa 19 1 20 (.aload_n 0) := ⟨by decide +kernel, rfl⟩
theorem d_X3_readVisa_20 : Dc cX3_readVisa 20 1 21 (.iconst 0) := ⟨by decide +kernel, rfl⟩
theorem d_X3_readVisa_21 : Dc cX3_readVisa 21 3 24 (.sipush 999) := ⟨by decide +kernel, rfl⟩
theorem d_X3_readVisa_24 : Dc cX3_readVisa 24 3 27 (.invokevirtual 54) := ⟨by decide +kernel, rfl⟩
theorem d_X3_readVisa_27 : Dc cX3_readVisa 27 3 30 (.putfield 58) := ⟨by decide +kernel, rfl⟩
theorem d_X3_readVisa_30 : Dc cX3_readVisa 30 1 31 (.aload_n 0) := ⟨by decide +kernel, rfl⟩
theorem d_X3_readVisa_31 : Dc cX3_readVisa 31 3 34 (.getfield 58) := ⟨by decide +kernel, rfl⟩
theorem d_X3_readVisa_34 : Dc cX3_readVisa 34 1 35 (.iconst (-1)) := ⟨by decide +kernel, rfl⟩
theorem d_X3_readVisa_35 : Dj cX3_readVisa 35 38 47 (.if_icmp .eq) := ⟨12, by decide +kernel, rfl, by decide⟩
theorem d_X3_readVisa_38 : Dc cX3_readVisa 38 1 39 (.aload_n 0) := ⟨by decide +kernel, rfl⟩
theorem d_X3_readVisa_39 : Dc cX3_readVisa 39 2 41 (.bipush 45) := ⟨by decide +kernel, rfl⟩
theorem d_X3_readVisa_41 : Dc cX3_readVisa 41 3 44 (.invokevirtual 32) := ⟨by decide +kernel, rfl⟩
theorem d_X3_readVisa_44 : Dj cX3_readVisa 44 47 49 (.ifCond .ne) := ⟨5, by decide +kernel, rfl, by decide⟩
theorem d_X3_readVisa_47 : Dc cX3_readVisa 47 1 48 (.iconst 0) := ⟨by decide +kernel, rfl⟩
theorem d_X3_readVisa_48 : decode cX3_readVisa 48 = .ok (.ireturn, 1) := by decide +kernel
theorem d_X3_readVisa_49 : Dc cX3_readVisa 49 1 50 (.aload_n 0) := ⟨by decide +kernel, rfl⟩
theorem d_X3_readVisa_50 : Dc cX3_readVisa 50 1 51 (.aload_n 0) := ⟨by decide +kernel, rfl⟩
theorem d_X3_readVisa_51 : Dc cX3_readVisa 51 1 52 (.iconst 0) := ⟨by decide +kernel, rfl⟩
theorem d_X3_readVisa_52 : Dc cX3_readVisa 52 3 55 (.sipush 999) := ⟨by decide +kernel, rfl⟩
theorem d_X3_readVisa_55 : Dc cX3_readVisa 55 3 58 (.invokevirtual 54) := ⟨by decide +kernel, rfl⟩
theorem d_X3_readVisa_58 : Dc cX3_readVisa 58 3 61 (.putfield 61) := ⟨by decide +kernel, rfl⟩
theorem d_X3_readVisa_61 : Dc cX3_readVisa 61 1 62 (.aload_n 0) := ⟨by decide +kernel, rfl⟩
theorem d_X3_readVisa_62 : Dc cX3_readVisa 62 3 65 (.getfield 61) := ⟨by decide +kernel, rfl⟩
theorem d_X3_readVisa_65 : Dc cX3_readVisa 65 1 66 (.iconst (-1)) := ⟨by decide +kernel, rfl⟩
theorem d_X3_readVisa_66 : Dj cX3_readVisa 66 69 89 (.if_icmp .eq) := ⟨23, by decide +kernel, rfl, by decide⟩
theorem d_X3_readVisa_69 : Dc cX3_readVisa 69 1 70 (.aload_n 0) := ⟨by decide +kernel, rfl⟩
theorem d_X3_readVisa_70 : Dc cX3_readVisa 70 2 72 (.bipush 42) := ⟨by decide +kernel, rfl⟩
theorem d_X3_readVisa_72 : Dc cX3_readVisa 72 3 75 (.invokevirtual 32) := ⟨by decide +kernel, rfl⟩
theorem d_X3_readVisa_75 : Dj cX3_readVisa 75 78 89 (.ifCond .eq) := ⟨14, by decide +kernel, rfl, by decide⟩
theorem d_X3_readVisa_78 : Dc cX3_readVisa 78 1 79 (.aload_n 0) := ⟨by decide +kernel, rfl⟩
theorem d_X3_readVisa_79 : Dc cX3_readVisa 79 3 82 (.invokevirtual 45) := ⟨by decide +kernel, rfl⟩
theorem d_X3_readVisa_82 : Dj cX3_readVisa 82 85 89 (.ifCond .eq) := ⟨7, by decide +kernel, rfl, by decide⟩
theorem d_X3_readVisa_85 : Dc cX3_readVisa 85 1 86 (.iconst 1) := ⟨by decide +kernel, rfl⟩
theorem d_X3_readVisa_86 : Dj cX3_readVisa 86 89 90 .goto := ⟨4, by decide +kernel, rfl, by decide⟩
theorem d_X3_readVisa_89 : Dc cX3_readVisa 89 1 90 (.iconst 0) := ⟨by decide +kernel, rfl⟩
theorem d_X3_readVisa_90 : decode cX3_readVisa 90 = .ok (.ireturn, 1) := by decide +kernel
set_option maxHeartbeats 4000000 in
set_option maxRecDepth 20000 in
theorem c_X3_readVisa {E : Ev} {n : Nat} {M : Mem} {m : Nat} {tx : Int → Int} {ln th nx ki pa co fo fr un da : Int} (ht : txB tx ln) (hs : 0 ≤ nx ∧ nx ≤ ln) : MT E yX3_readVisa cX3_readVisa 1 (some .boolean) 3 0 0 [.ref m] n (xtU E M m tx ln th nx ki pa co fo fr un da) ((fun v n' M' => n' = n ∧ ∃ pa' co' fr' un' da' : Int, v = some (.int (iI (bI ((vR3 tx ln nx).2.2 = 0)))) ∧ M' = xtU E M m tx ln th ((vR3 tx ln nx).2.1) ki pa' co' fo fr' un' da' ∧ ((vR3 tx ln nx).2.2 = 0 → pa' = p1v tx ln nx ∧ co' = p2v tx ln nx ∧ fr' = (vR1 tx ln nx).1 ∧ un' = (vR2 tx ln nx).1 ∧ da' = (vR3 tx ln nx).1))) := by
  refine MT.of (by decide) rfl (Nat.le_of_ble_eq_true rfl) ?_
  intro X g
  have g0 := g.1
  show V E X 0 0 n (xtU E M m tx ln th nx ki pa co fo fr un da) 0 [some (.ref m)] []
  have htx := ht.2
  have hl := ht.1
  refine V.al0 g0 d_X3_readVisa_0 ?_
  refine V.callVf g0 (c_X3_readPassportAndCountry ht hs) ky_X3_readPassportAndCountry ki_X3_readPassportAndCountry ks2_X3_readPassportAndCountry lk_X3_48 (by first | exact xt_0 | exact xt_1) rfl rfl (Nat.le_of_ble_eq_true rfl) ⟨Nat.zero_le _, Nat.zero_le _⟩ rfl rfl (Nat.le_of_ble_eq_true rfl) d_X3_readVisa_1 ?_
  refine V.ifeqB g0 d_X3_readVisa_4 (fun c_4 => ?_) (fun c_4 => ?_)
  · skip
    refine V.iconst g0 d_X3_readVisa_16 ?_
    refine V.zret g d_X3_readVisa_17 (by first | exact Or.inl rfl | exact Or.inr rfl | exact bI_01 _) (Nat.zero_le _) (Nat.zero_le _) ?_
    have eV := vR3_0 c_4
    rw [eV]; exact ⟨rfl, _, _, _, _, _, congrArg (fun z => some (Value.int (iI z))) (bI_f (show ¬ (1 : Int) = 0 by decide)).symm, rfl, fun q => absurd (show (1 : Int) = 0 from q) (by decide)⟩
  · skip
    have hln := c_4.2.2.1
    rw [bI_t c_4.1, bI_t c_4, if_pos c_4.1, show nx + 1 + 1 = nx + 2 by omega]
    refine V.al0 g0 d_X3_readVisa_7 ?_
    refine V.bipush g0 d_X3_readVisa_8 (by decide) ?_
    refine V.callVf g0 (c_X3_take ht (by omega) (by decide)) ky_X3_take ki_X3_take ks2_X3_take lk_X3_32 (by first | exact xt_0 | exact xt_1) rfl rfl (Nat.le_of_ble_eq_true rfl) ⟨Nat.zero_le _, Nat.zero_le _⟩ rfl rfl (Nat.le_of_ble_eq_true rfl) d_X3_readVisa_10 ?_
    refine V.ifneB g0 d_X3_readVisa_13 (fun c_13 => ?_) (fun c_13 => ?_)
    · skip
      rw [bI_t c_13]
      have r1 := rn_b (tx := tx) (ln := ln) (sp := (nx + 2 + 1)) (least := 0) (most := 999) (by have := c_13.2.1; omega) (by omega)
      have r1c := rn_c (tx := tx) (ln := ln) (sp := (nx + 2 + 1)) (least := 0) (most := 999) (by have := c_13.2.1; omega) (by omega)
      refine V.al0 g0 d_X3_readVisa_18 ?_
      refine V.al0 g0 d_X3_readVisa_19 ?_
      refine V.iconst g0 d_X3_readVisa_20 ?_
      refine V.sipush g0 d_X3_readVisa_21 (by decide) ?_
      refine V.callVf g0 (c_X3_readNumber ht (by have := c_13.2.1; omega) (by omega) (by omega)) ky_X3_readNumber ki_X3_readNumber ks2_X3_readNumber lk_X3_54 (by first | exact xt_0 | exact xt_1) rfl rfl (Nat.le_of_ble_eq_true rfl) ⟨Nat.zero_le _, Nat.zero_le _⟩ rfl rfl (Nat.le_of_ble_eq_true rfl) d_X3_readVisa_24 ?_
      refine V.putf g0 d_X3_readVisa_27 fp_X3_58 (by first | exact xt_0 | exact xt_1) (Nat.le_of_ble_eq_true rfl) rfl rfl ?_
      first | refine V.eqM xt_u0 ?_ | refine V.eqM xt_u1 ?_
      refine V.al0 g0 d_X3_readVisa_30 ?_
      refine V.getf g0 d_X3_readVisa_31 fl_X3_58 (by first | exact xt_0 | exact xt_1) (by rfl) ?_
      refine V.iconst g0 d_X3_readVisa_34 ?_
      refine V.icmpeq g0 d_X3_readVisa_35 (by omega) (fun c_35 => ?_) (fun c_35 => ?_)
      · skip
        have hn1 : ¬ nxt tx ln (nx + 2 + 1) 0 (48 + 0) 57 := fun q => by
          rcases r1c with w | w
          · exact w.2 c_35
          · exact w.1 q
        refine V.iconst g0 d_X3_readVisa_47 ?_
        refine V.zret g d_X3_readVisa_48 (by first | exact Or.inl rfl | exact Or.inr rfl | exact bI_01 _) (Nat.zero_le _) (Nat.zero_le _) ?_
        rw [rn_n (by omega) hn1]
        have eV := vR3_1 ((vR1_y c_4).trans (nd_n c_13 hn1))
        rw [eV]; exact ⟨rfl, _, _, _, _, _, congrArg (fun z => some (Value.int (iI z))) (bI_f (show ¬ (1 : Int) = 0 by decide)).symm, rfl, fun q => absurd (show (1 : Int) = 0 from q) (by decide)⟩
      · skip
        have hn1 : nxt tx ln (nx + 2 + 1) 0 (48 + 0) 57 := by
          rcases r1c with w | w
          · exact w.1
          · exact absurd w.2 c_35
        refine V.al0 g0 d_X3_readVisa_38 ?_
        refine V.bipush g0 d_X3_readVisa_39 (by decide) ?_
        refine V.callVf g0 (c_X3_take ht (by omega) (by decide)) ky_X3_take ki_X3_take ks2_X3_take lk_X3_32 (by first | exact xt_0 | exact xt_1) rfl rfl (Nat.le_of_ble_eq_true rfl) ⟨Nat.zero_le _, Nat.zero_le _⟩ rfl rfl (Nat.le_of_ble_eq_true rfl) d_X3_readVisa_41 ?_
        refine V.ifneB g0 d_X3_readVisa_44 (fun c_44 => ?_) (fun c_44 => ?_)
        · skip
          rw [bI_t c_44]
          have r2 := rn_b (tx := tx) (ln := ln) (sp := (rn tx ln (nx + 2 + 1) 0 999).2 + 1) (least := 0) (most := 999) (by have := c_44.2.1; omega) (by omega)
          have r2c := rn_c (tx := tx) (ln := ln) (sp := (rn tx ln (nx + 2 + 1) 0 999).2 + 1) (least := 0) (most := 999) (by have := c_44.2.1; omega) (by omega)
          refine V.al0 g0 d_X3_readVisa_49 ?_
          refine V.al0 g0 d_X3_readVisa_50 ?_
          refine V.iconst g0 d_X3_readVisa_51 ?_
          refine V.sipush g0 d_X3_readVisa_52 (by decide) ?_
          refine V.callVf g0 (c_X3_readNumber ht (by have := c_44.2.1; omega) (by omega) (by omega)) ky_X3_readNumber ki_X3_readNumber ks2_X3_readNumber lk_X3_54 (by first | exact xt_0 | exact xt_1) rfl rfl (Nat.le_of_ble_eq_true rfl) ⟨Nat.zero_le _, Nat.zero_le _⟩ rfl rfl (Nat.le_of_ble_eq_true rfl) d_X3_readVisa_55 ?_
          refine V.putf g0 d_X3_readVisa_58 fp_X3_61 (by first | exact xt_0 | exact xt_1) (Nat.le_of_ble_eq_true rfl) rfl rfl ?_
          first | refine V.eqM xt_u0 ?_ | refine V.eqM xt_u1 ?_
          refine V.al0 g0 d_X3_readVisa_61 ?_
          refine V.getf g0 d_X3_readVisa_62 fl_X3_61 (by first | exact xt_0 | exact xt_1) (by rfl) ?_
          refine V.iconst g0 d_X3_readVisa_65 ?_
          refine V.icmpeq g0 d_X3_readVisa_66 (by omega) (fun c_66 => ?_) (fun c_66 => ?_)
          · skip
            have hn2 : ¬ nxt tx ln ((rn tx ln (nx + 2 + 1) 0 999).2 + 1) 0 (48 + 0) 57 := fun q => by
              rcases r2c with w | w
              · exact w.2 c_66
              · exact w.1 q
            refine V.iconst g0 d_X3_readVisa_89 ?_
            refine V.zret g d_X3_readVisa_90 (by first | exact Or.inl rfl | exact Or.inr rfl | exact bI_01 _) (Nat.zero_le _) (Nat.zero_le _) ?_
            rw [rn_n (by omega) hn2]
            have e1 := (vR1_y c_4).trans (nd_y (by omega) c_13 hn1)
            have eV := vR3_2 ((vR2_of e1).trans (nd_n c_44 hn2))
            rw [eV]; exact ⟨rfl, _, _, _, _, _, congrArg (fun z => some (Value.int (iI z))) (bI_f (show ¬ (1 : Int) = 0 by decide)).symm, rfl, fun q => absurd (show (1 : Int) = 0 from q) (by decide)⟩
          · skip
            have hn2 : nxt tx ln ((rn tx ln (nx + 2 + 1) 0 999).2 + 1) 0 (48 + 0) 57 := by
              rcases r2c with w | w
              · exact w.1
              · exact absurd w.2 c_66
            refine V.al0 g0 d_X3_readVisa_69 ?_
            refine V.bipush g0 d_X3_readVisa_70 (by decide) ?_
            refine V.callVf g0 (c_X3_take ht (by omega) (by decide)) ky_X3_take ki_X3_take ks2_X3_take lk_X3_32 (by first | exact xt_0 | exact xt_1) rfl rfl (Nat.le_of_ble_eq_true rfl) ⟨Nat.zero_le _, Nat.zero_le _⟩ rfl rfl (Nat.le_of_ble_eq_true rfl) d_X3_readVisa_72 ?_
            refine V.ifeqB g0 d_X3_readVisa_75 (fun c_75 => ?_) (fun c_75 => ?_)
            · skip
              refine V.iconst g0 d_X3_readVisa_89 ?_
              refine V.zret g d_X3_readVisa_90 (by first | exact Or.inl rfl | exact Or.inr rfl | exact bI_01 _) (Nat.zero_le _) (Nat.zero_le _) ?_
              rw [bI_f c_75, Int.add_zero]
              have e1 := (vR1_y c_4).trans (nd_y (by omega) c_13 hn1)
              have e2 := (vR2_of e1).trans (nd_y (by omega) c_44 hn2)
              have eV := (vR3_of e2).trans (nd_w c_75)
              rw [eV]; exact ⟨rfl, _, _, _, _, _, congrArg (fun z => some (Value.int (iI z))) (bI_f (show ¬ (1 : Int) = 0 by decide)).symm, rfl, fun q => absurd (show (1 : Int) = 0 from q) (by decide)⟩
            · skip
              rw [bI_t c_75]
              have r3 := rn_b (tx := tx) (ln := ln) (sp := (rn tx ln ((rn tx ln (nx + 2 + 1) 0 999).2 + 1) 0 999).2 + 1) (least := 1) (most := 99) (by have := c_75.2.1; omega) (by omega)
              have r3c := rn_c (tx := tx) (ln := ln) (sp := (rn tx ln ((rn tx ln (nx + 2 + 1) 0 999).2 + 1) 0 999).2 + 1) (least := 1) (most := 99) (by have := c_75.2.1; omega) (by omega)
              refine V.al0 g0 d_X3_readVisa_78 ?_
              refine V.callVf g0 (c_X3_readDays ht (by have := c_75.2.1; omega)) ky_X3_readDays ki_X3_readDays ks2_X3_readDays lk_X3_45 (by first | exact xt_0 | exact xt_1) rfl rfl (Nat.le_of_ble_eq_true rfl) ⟨Nat.zero_le _, Nat.zero_le _⟩ rfl rfl (Nat.le_of_ble_eq_true rfl) d_X3_readVisa_79 ?_
              refine V.ifeqB g0 d_X3_readVisa_82 (fun c_82 => ?_) (fun c_82 => ?_)
              · skip
                have hn3 : ¬ nxt tx ln ((rn tx ln ((rn tx ln (nx + 2 + 1) 0 999).2 + 1) 0 999).2 + 1) 0 (48 + 1) 57 := fun q => by
                  rcases r3c with w | w
                  · exact c_82 w.2
                  · exact w.1 q
                refine V.iconst g0 d_X3_readVisa_89 ?_
                refine V.zret g d_X3_readVisa_90 (by first | exact Or.inl rfl | exact Or.inr rfl | exact bI_01 _) (Nat.zero_le _) (Nat.zero_le _) ?_
                rw [rn_n (by omega) hn3]
                have e1 := (vR1_y c_4).trans (nd_y (by omega) c_13 hn1)
                have e2 := (vR2_of e1).trans (nd_y (by omega) c_44 hn2)
                have eV := (vR3_of e2).trans (nd_n c_75 hn3)
                rw [eV]; exact ⟨rfl, _, _, _, _, _, congrArg (fun z => some (Value.int (iI z))) (bI_f (show ¬ (1 : Int) = 0 by decide)).symm, rfl, fun q => absurd (show (1 : Int) = 0 from q) (by decide)⟩
              · skip
                have hn3 : nxt tx ln ((rn tx ln ((rn tx ln (nx + 2 + 1) 0 999).2 + 1) 0 999).2 + 1) 0 (48 + 1) 57 := by
                  rcases r3c with w | w
                  · exact w.1
                  · exact absurd w.2 c_82
                refine V.iconst g0 d_X3_readVisa_85 ?_
                refine V.goto g0 d_X3_readVisa_86 ?_
                refine V.zret g d_X3_readVisa_90 (by first | exact Or.inl rfl | exact Or.inr rfl | exact bI_01 _) (Nat.zero_le _) (Nat.zero_le _) ?_
                have e1 := (vR1_y c_4).trans (nd_y (by omega) c_13 hn1)
                have e2 := (vR2_of e1).trans (nd_y (by omega) c_44 hn2)
                have eV := (vR3_of e2).trans (nd_y (by omega) c_75 hn3)
                have ep := pc_y c_4
                rw [eV, e1, e2, ep.2.2.1, ep.2.2.2]; exact ⟨rfl, _, _, _, _, _, congrArg (fun z => some (Value.int (iI z))) (bI_t (show (0 : Int) = 0 from rfl)).symm, rfl, fun _ => ⟨rfl, rfl, rfl, rfl, rfl⟩⟩
        · skip
          refine V.iconst g0 d_X3_readVisa_47 ?_
          refine V.zret g d_X3_readVisa_48 (by first | exact Or.inl rfl | exact Or.inr rfl | exact bI_01 _) (Nat.zero_le _) (Nat.zero_le _) ?_
          rw [bI_f c_44, Int.add_zero]
          have e1 := (vR1_y c_4).trans (nd_y (by omega) c_13 hn1)
          have eV := vR3_2 ((vR2_of e1).trans (nd_w c_44))
          rw [eV]; exact ⟨rfl, _, _, _, _, _, congrArg (fun z => some (Value.int (iI z))) (bI_f (show ¬ (1 : Int) = 0 by decide)).symm, rfl, fun q => absurd (show (1 : Int) = 0 from q) (by decide)⟩
    · skip
      refine V.iconst g0 d_X3_readVisa_16 ?_
      refine V.zret g d_X3_readVisa_17 (by first | exact Or.inl rfl | exact Or.inr rfl | exact bI_01 _) (Nat.zero_le _) (Nat.zero_le _) ?_
      rw [bI_f c_13, Int.add_zero]
      have eV := vR3_1 ((vR1_y c_4).trans (nd_w c_13))
      rw [eV]; exact ⟨rfl, _, _, _, _, _, congrArg (fun z => some (Value.int (iI z))) (bI_f (show ¬ (1 : Int) = 0 by decide)).symm, rfl, fun q => absurd (show (1 : Int) = 0 from q) (by decide)⟩

theorem d_X3_readNext_0 : Dc cX3_readNext 0 1 1 (.aload_n 0) := ⟨by decide +kernel, rfl⟩
theorem d_X3_readNext_1 : Dc cX3_readNext 1 3 4 (.getfield 19) := ⟨by decide +kernel, rfl⟩
theorem d_X3_readNext_4 : Dj cX3_readNext 4 7 18 (.ifCond .le) := ⟨14, by decide +kernel, rfl, by decide⟩
theorem d_X3_readNext_7 : Dc cX3_readNext 7 1 8 (.aload_n 0) := ⟨by decide +kernel, rfl⟩
theorem d_X3_readNext_8 : Dc cX3_readNext 8 2 10 (.bipush 59) := ⟨by decide +kernel, rfl⟩
theorem d_X3_readNext_10 : Dc cX3_readNext 10 3 13 (.invokevirtual 32) := ⟨by decide +kernel, rfl⟩
theorem d_X3_readNext_13 : Dj cX3_readNext 13 16 18 (.ifCond .ne) := ⟨5, by decide +kernel, rfl, by decide⟩
theorem d_X3_readNext_16 : Dc cX3_readNext 16 1 17 (.iconst 0) := ⟨by decide +kernel, rfl⟩
theorem d_X3_readNext_17 : decode cX3_readNext 17 = .ok (.ireturn, 1) := by decide +kernel
theorem d_X3_readNext_18 : Dc cX3_readNext 18 1 19 (.aload_n 0) := ⟨by decide +kernel, rfl⟩
theorem d_X3_readNext_19 : Dc cX3_readNext 19 2 21 (.bipush 120) := ⟨by decide +kernel, rfl⟩
theorem d_X3_readNext_21 : Dc cX3_readNext 21 3 24 (.invokevirtual 32) := ⟨by decide +kernel, rfl⟩
theorem d_X3_readNext_24 : Dj cX3_readNext 24 27 37 (.ifCond .eq) := ⟨13, by decide +kernel, rfl, by decide⟩
theorem d_X3_readNext_27 : Dc cX3_readNext 27 1 28 (.aload_n 0) := ⟨by decide +kernel, rfl⟩
theorem d_X3_readNext_28 : Dc cX3_readNext 28 1 29 (.iconst 0) := ⟨by decide +kernel, rfl⟩
theorem d_X3_readNext_29 : Dc cX3_readNext 29 3 32 (.putfield 36) := ⟨by decide +kernel, rfl⟩
theorem d_X3_readNext_32 : Dc cX3_readNext 32 1 33 (.aload_n 0) := ⟨by decide +kernel, rfl⟩
theorem d_X3_readNext_33 : Dc cX3_readNext 33 3 36 (.invokevirtual 39) := ⟨by decide +kernel, rfl⟩
theorem d_X3_readNext_36 : decode cX3_readNext 36 = .ok (.ireturn, 1) := by decide +kernel
theorem d_X3_readNext_37 : Dc cX3_readNext 37 1 38 (.aload_n 0) := ⟨by decide +kernel, rfl⟩
theorem d_X3_readNext_38 : Dc cX3_readNext 38 2 40 (.bipush 118) := ⟨by decide +kernel, rfl⟩
theorem d_X3_readNext_40 : Dc cX3_readNext 40 3 43 (.invokevirtual 32) := ⟨by decide +kernel, rfl⟩
theorem d_X3_readNext_43 : Dj cX3_readNext 43 46 56 (.ifCond .eq) := ⟨13, by decide +kernel, rfl, by decide⟩
theorem d_X3_readNext_46 : Dc cX3_readNext 46 1 47 (.aload_n 0) := ⟨by decide +kernel, rfl⟩
theorem d_X3_readNext_47 : Dc cX3_readNext 47 1 48 (.iconst 1) := ⟨by decide +kernel, rfl⟩
theorem d_X3_readNext_48 : Dc cX3_readNext 48 3 51 (.putfield 36) := ⟨by decide +kernel, rfl⟩
theorem d_X3_readNext_51 : Dc cX3_readNext 51 1 52 (.aload_n 0) := ⟨by decide +kernel, rfl⟩
theorem d_X3_readNext_52 : Dc cX3_readNext 52 3 55 (.invokevirtual 42) := ⟨by decide +kernel, rfl⟩
theorem d_X3_readNext_55 : decode cX3_readNext 55 = .ok (.ireturn, 1) := by decide +kernel
theorem d_X3_readNext_56 : Dc cX3_readNext 56 1 57 (.aload_n 0) := ⟨by decide +kernel, rfl⟩
theorem d_X3_readNext_57 : Dc cX3_readNext 57 1 58 (.iconst 2) := ⟨by decide +kernel, rfl⟩
theorem d_X3_readNext_58 : Dc cX3_readNext 58 3 61 (.putfield 36) := ⟨by decide +kernel, rfl⟩
theorem d_X3_readNext_61 : Dc cX3_readNext 61 1 62 (.aload_n 0) := ⟨by decide +kernel, rfl⟩
theorem d_X3_readNext_62 : Dc cX3_readNext 62 2 64 (.bipush 46) := ⟨by decide +kernel, rfl⟩
theorem d_X3_readNext_64 : Dc cX3_readNext 64 3 67 (.invokevirtual 32) := ⟨by decide +kernel, rfl⟩
theorem d_X3_readNext_67 : Dj cX3_readNext 67 70 81 (.ifCond .eq) := ⟨14, by decide +kernel, rfl, by decide⟩
theorem d_X3_readNext_70 : Dc cX3_readNext 70 1 71 (.aload_n 0) := ⟨by decide +kernel, rfl⟩
theorem d_X3_readNext_71 : Dc cX3_readNext 71 3 74 (.invokevirtual 45) := ⟨by decide +kernel, rfl⟩
theorem d_X3_readNext_74 : Dj cX3_readNext 74 77 81 (.ifCond .eq) := ⟨7, by decide +kernel, rfl, by decide⟩
theorem d_X3_readNext_77 : Dc cX3_readNext 77 1 78 (.iconst 1) := ⟨by decide +kernel, rfl⟩
theorem d_X3_readNext_78 : Dj cX3_readNext 78 81 82 .goto := ⟨4, by decide +kernel, rfl, by decide⟩
theorem d_X3_readNext_81 : Dc cX3_readNext 81 1 82 (.iconst 0) := ⟨by decide +kernel, rfl⟩
theorem d_X3_readNext_82 : decode cX3_readNext 82 = .ok (.ireturn, 1) := by decide +kernel
set_option maxHeartbeats 4000000 in
set_option maxRecDepth 20000 in
theorem c_X3_readNext0 {E : Ev} {n : Nat} {M : Mem} {m : Nat} {tx : Int → Int} {ln th nx ki pa co fo fr un da : Int} (ht : txB tx ln) (hs : 0 ≤ nx ∧ nx ≤ ln) (hq : 0 < nx ∧ ¬ nxt tx ln nx 0 59 59) : MT E yX3_readNext cX3_readNext 1 (some .boolean) 4 0 0 [.ref m] n (xtU E M m tx ln th nx ki pa co fo fr un da) ((PF (some (.int (iI (0)))) n (xtU E M m tx ln th nx ki pa co fo fr un da))) := by
  refine MT.of (by decide) rfl (Nat.le_of_ble_eq_true rfl) ?_
  intro X g
  have g0 := g.1
  show V E X 0 0 n (xtU E M m tx ln th nx ki pa co fo fr un da) 0 [some (.ref m)] []
  have htx := ht.2
  have hl := ht.1
  refine V.al0 g0 d_X3_readNext_0 ?_
  refine V.getf g0 d_X3_readNext_1 fl_X3_19 (by first | exact xt_0 | exact xt_1) (by rfl) ?_
  refine V.ifle g0 d_X3_readNext_4 (by omega) (fun c_4 => ?_) (fun c_4 => ?_)
  · skip
    exfalso; omega
  · skip
    refine V.al0 g0 d_X3_readNext_7 ?_
    refine V.bipush g0 d_X3_readNext_8 (by decide) ?_
    refine V.callVf g0 (c_X3_take ht (by omega) (by decide)) ky_X3_take ki_X3_take ks2_X3_take lk_X3_32 (by first | exact xt_0 | exact xt_1) rfl rfl (Nat.le_of_ble_eq_true rfl) ⟨Nat.zero_le _, Nat.zero_le _⟩ rfl rfl (Nat.le_of_ble_eq_true rfl) d_X3_readNext_10 ?_
    refine V.ifneB g0 d_X3_readNext_13 (fun c_13 => ?_) (fun c_13 => ?_)
    · skip
      exact absurd c_13 hq.2
    · skip
      refine V.iconst g0 d_X3_readNext_16 ?_
      refine V.zret g d_X3_readNext_17 (by first | exact Or.inl rfl | exact Or.inr rfl | exact bI_01 _) (Nat.zero_le _) (Nat.zero_le _) ?_
      rw [bI_f c_13, Int.add_zero]; exact ⟨rfl, rfl, rfl⟩

set_option maxHeartbeats 4000000 in
set_option maxRecDepth 20000 in
theorem c_X3_readNext1 {E : Ev} {n : Nat} {M : Mem} {m : Nat} {tx : Int → Int} {ln th nx ki pa co fo fr un da : Int} (ht : txB tx ln) (hs : 0 ≤ nx ∧ nx ≤ ln) {sp : Int} (hq : nxAt tx ln nx sp) : MT E yX3_readNext cX3_readNext 1 (some .boolean) 4 0 0 [.ref m] n (xtU E M m tx ln th nx ki pa co fo fr un da) ((fun v n' M' => n' = n ∧ ∃ ki' pa' co' fo' fr' un' da' : Int, v = some (.int (iI (bI ((rd0 tx ln sp).2.1 = 0)))) ∧ M' = xtU E M m tx ln th ((rd0 tx ln sp).1) ki' pa' co' fo' fr' un' da' ∧ ((rd0 tx ln sp).2.1 = 0 → thR (rd0 tx ln sp) ki' pa' co' fo' fr' un' da'))) := by
  refine MT.of (by decide) rfl (Nat.le_of_ble_eq_true rfl) ?_
  intro X g
  have g0 := g.1
  show V E X 0 0 n (xtU E M m tx ln th nx ki pa co fo fr un da) 0 [some (.ref m)] []
  have htx := ht.2
  have hl := ht.1
  have hsp : 0 ≤ sp ∧ sp ≤ ln := by
    rcases hq with q | q
    · omega
    · have := q.2.1.2.1; omega
  have T0 : V E X 0 0 n (xtU E M m tx ln th sp ki pa co fo fr un da) 18 [some (.ref m)] [] := by
    refine V.al0 g0 d_X3_readNext_18 ?_
    refine V.bipush g0 d_X3_readNext_19 (by decide) ?_
    refine V.callVf g0 (c_X3_take ht hsp (by decide)) ky_X3_take ki_X3_take ks2_X3_take lk_X3_32 (by first | exact xt_0 | exact xt_1) rfl rfl (Nat.le_of_ble_eq_true rfl) ⟨Nat.zero_le _, Nat.zero_le _⟩ rfl rfl (Nat.le_of_ble_eq_true rfl) d_X3_readNext_21 ?_
    refine V.ifeqB g0 d_X3_readNext_24 (fun c_24 => ?_) (fun c_24 => ?_)
    · skip
      rw [bI_f c_24, Int.add_zero]
      refine V.al0 g0 d_X3_readNext_37 ?_
      refine V.bipush g0 d_X3_readNext_38 (by decide) ?_
      refine V.callVf g0 (c_X3_take ht hsp (by decide)) ky_X3_take ki_X3_take ks2_X3_take lk_X3_32 (by first | exact xt_0 | exact xt_1) rfl rfl (Nat.le_of_ble_eq_true rfl) ⟨Nat.zero_le _, Nat.zero_le _⟩ rfl rfl (Nat.le_of_ble_eq_true rfl) d_X3_readNext_40 ?_
      refine V.ifeqB g0 d_X3_readNext_43 (fun c_43 => ?_) (fun c_43 => ?_)
      · skip
        rw [bI_f c_43, Int.add_zero]
        refine V.al0 g0 d_X3_readNext_56 ?_
        refine V.iconst g0 d_X3_readNext_57 ?_
        refine V.putf g0 d_X3_readNext_58 fp_X3_36 (by first | exact xt_0 | exact xt_1) (Nat.le_of_ble_eq_true rfl) rfl rfl ?_
        first | refine V.eqM xt_u0 ?_ | refine V.eqM xt_u1 ?_
        refine V.al0 g0 d_X3_readNext_61 ?_
        refine V.bipush g0 d_X3_readNext_62 (by decide) ?_
        refine V.callVf g0 (c_X3_take ht hsp (by decide)) ky_X3_take ki_X3_take ks2_X3_take lk_X3_32 (by first | exact xt_0 | exact xt_1) rfl rfl (Nat.le_of_ble_eq_true rfl) ⟨Nat.zero_le _, Nat.zero_le _⟩ rfl rfl (Nat.le_of_ble_eq_true rfl) d_X3_readNext_64 ?_
        refine V.ifeqB g0 d_X3_readNext_67 (fun c_67 => ?_) (fun c_67 => ?_)
        · skip
          rw [bI_f c_67, Int.add_zero]
          refine V.iconst g0 d_X3_readNext_81 ?_
          refine V.zret g d_X3_readNext_82 (by first | exact Or.inl rfl | exact Or.inr rfl | exact bI_01 _) (Nat.zero_le _) (Nat.zero_le _) ?_
          have eV := rd0_no c_24 c_43 c_67
          rw [eV.1, eV.2]; exact ⟨rfl, _, _, _, _, _, _, _, congrArg (fun z => some (Value.int (iI z))) (bI_f (show ¬ (1 : Int) = 0 by decide)).symm, rfl, fun q => absurd (show (1 : Int) = 0 from q) (by decide)⟩
        · skip
          rw [bI_t c_67]
          have hln := c_67.2.1
          have r3c := rn_c (tx := tx) (ln := ln) (sp := sp + 1) (least := 1) (most := 99) (by omega) (by omega)
          refine V.al0 g0 d_X3_readNext_70 ?_
          refine V.callVf g0 (c_X3_readDays ht (by omega)) ky_X3_readDays ki_X3_readDays ks2_X3_readDays lk_X3_45 (by first | exact xt_0 | exact xt_1) rfl rfl (Nat.le_of_ble_eq_true rfl) ⟨Nat.zero_le _, Nat.zero_le _⟩ rfl rfl (Nat.le_of_ble_eq_true rfl) d_X3_readNext_71 ?_
          refine V.ifeqB g0 d_X3_readNext_74 (fun c_74 => ?_) (fun c_74 => ?_)
          · skip
            refine V.iconst g0 d_X3_readNext_81 ?_
            refine V.zret g d_X3_readNext_82 (by first | exact Or.inl rfl | exact Or.inr rfl | exact bI_01 _) (Nat.zero_le _) (Nat.zero_le _) ?_
            have eV0 := rd0_dot c_67
            have hn3 : ¬ nxt tx ln (sp + 1) 0 (48 + 1) 57 := fun q => by
              rcases r3c with w | w
              · exact c_74 w.2
              · exact w.1 q
            rw [nmNo hn3] at eV0
            rw [rn_n (by omega) hn3]
            have eV : (rd0 tx ln sp).1 = sp + 1 ∧ (rd0 tx ln sp).2.1 = 1 := by rw [eV0]; exact ⟨rfl, rfl⟩
            rw [eV.1, eV.2]; exact ⟨rfl, _, _, _, _, _, _, _, congrArg (fun z => some (Value.int (iI z))) (bI_f (show ¬ (1 : Int) = 0 by decide)).symm, rfl, fun q => absurd (show (1 : Int) = 0 from q) (by decide)⟩
          · skip
            refine V.iconst g0 d_X3_readNext_77 ?_
            refine V.goto g0 d_X3_readNext_78 ?_
            refine V.zret g d_X3_readNext_82 (by first | exact Or.inl rfl | exact Or.inr rfl | exact bI_01 _) (Nat.zero_le _) (Nat.zero_le _) ?_
            have eV := rd0_dot c_67
            have hn3 : nxt tx ln (sp + 1) 0 (48 + 1) 57 := by
              rcases r3c with w | w
              · exact w.1
              · exact absurd w.2 c_74
            have er := rn_y (least := 1) (most := 99) (by omega) hn3
            rw [eV, er.1]; exact ⟨rfl, _, _, _, _, _, _, _, congrArg (fun z => some (Value.int (iI z))) (bI_t er.2).symm, rfl, fun _ => Or.inr (Or.inr ⟨rfl, rfl, rfl⟩)⟩
      · skip
        rw [bI_t c_43]
        have hln := c_43.2.1
        refine V.al0 g0 d_X3_readNext_46 ?_
        refine V.iconst g0 d_X3_readNext_47 ?_
        refine V.putf g0 d_X3_readNext_48 fp_X3_36 (by first | exact xt_0 | exact xt_1) (Nat.le_of_ble_eq_true rfl) rfl rfl ?_
        first | refine V.eqM xt_u0 ?_ | refine V.eqM xt_u1 ?_
        refine V.al0 g0 d_X3_readNext_51 ?_
        refine V.callV g0 (c_X3_readVisa ht (by omega)) ky_X3_readVisa ki_X3_readVisa ks2_X3_readVisa lk_X3_42 (by first | exact xt_0 | exact xt_1) rfl rfl (Nat.le_of_ble_eq_true rfl) ⟨Nat.zero_le _, Nat.zero_le _⟩ rfl rfl (Nat.le_of_ble_eq_true rfl) d_X3_readNext_52 (fun v_52 n_52 M_52 h_52 => ?_)
        obtain ⟨e2, pa', co', fr', un', da', rfl, rfl, hv⟩ := h_52
        replace e2 := e2.symm
        subst e2
        refine V.zret g d_X3_readNext_55 (by first | exact Or.inl rfl | exact Or.inr rfl | exact bI_01 _) (Nat.zero_le _) (Nat.zero_le _) ?_
        have eV := rd0_v c_43
        rw [eV]; exact ⟨rfl, _, _, _, _, _, _, _, rfl, rfl, fun q => Or.inr (Or.inl ⟨rfl, rfl, (hv q).1, (hv q).2.1, (hv q).2.2.1, (hv q).2.2.2.1, (hv q).2.2.2.2⟩)⟩
    · skip
      rw [bI_t c_24]
      have hln := c_24.2.1
      refine V.al0 g0 d_X3_readNext_27 ?_
      refine V.iconst g0 d_X3_readNext_28 ?_
      refine V.putf g0 d_X3_readNext_29 fp_X3_36 (by first | exact xt_0 | exact xt_1) (Nat.le_of_ble_eq_true rfl) rfl rfl ?_
      first | refine V.eqM xt_u0 ?_ | refine V.eqM xt_u1 ?_
      refine V.al0 g0 d_X3_readNext_32 ?_
      refine V.callVf g0 (c_X3_readCrossing ht (by omega)) ky_X3_readCrossing ki_X3_readCrossing ks2_X3_readCrossing lk_X3_39 (by first | exact xt_0 | exact xt_1) rfl rfl (Nat.le_of_ble_eq_true rfl) ⟨Nat.zero_le _, Nat.zero_le _⟩ rfl rfl (Nat.le_of_ble_eq_true rfl) d_X3_readNext_33 ?_
      refine V.zret g d_X3_readNext_36 (by first | exact Or.inl rfl | exact Or.inr rfl | exact bI_01 _) (Nat.zero_le _) (Nat.zero_le _) ?_
      by_cases hc : (nxt tx ln (sp + 1) 0 48 53 ∧ nxt tx ln (sp + 1 + 1) 0 48 53)
      · have eV := rd0_xy c_24 hc
        rw [if_pos hc, eV, bI_t hc]; exact ⟨rfl, _, _, _, _, _, _, _, congrArg (fun z => some (Value.int (iI z))) (bI_t (show (0 : Int) = 0 from rfl)).symm, rfl, fun _ => Or.inl ⟨rfl, rfl, rfl, rfl, rfl⟩⟩
      · have eV := rd0_xn c_24 hc
        rw [if_neg hc, bI_f hc]; rw [bI_f hc] at eV; rw [eV.1, eV.2]; exact ⟨rfl, _, _, _, _, _, _, _, congrArg (fun z => some (Value.int (iI z))) (bI_f (show ¬ (1 : Int) = 0 by decide)).symm, rfl, fun q => absurd (show (1 : Int) = 0 from q) (by decide)⟩
  refine V.al0 g0 d_X3_readNext_0 ?_
  refine V.getf g0 d_X3_readNext_1 fl_X3_19 (by first | exact xt_0 | exact xt_1) (by rfl) ?_
  refine V.ifle g0 d_X3_readNext_4 (by omega) (fun c_4 => ?_) (fun c_4 => ?_)
  · skip
    have e9 : nx = sp := by
      rcases hq with q | q
      · omega
      · omega
    rw [e9]; exact T0
  · skip
    refine V.al0 g0 d_X3_readNext_7 ?_
    refine V.bipush g0 d_X3_readNext_8 (by decide) ?_
    refine V.callVf g0 (c_X3_take ht (by omega) (by decide)) ky_X3_take ki_X3_take ks2_X3_take lk_X3_32 (by first | exact xt_0 | exact xt_1) rfl rfl (Nat.le_of_ble_eq_true rfl) ⟨Nat.zero_le _, Nat.zero_le _⟩ rfl rfl (Nat.le_of_ble_eq_true rfl) d_X3_readNext_10 ?_
    refine V.ifneB g0 d_X3_readNext_13 (fun c_13 => ?_) (fun c_13 => ?_)
    · skip
      have e9 : nx + 1 = sp := by
        rcases hq with q | q
        · omega
        · omega
      rw [bI_t c_13, e9]; exact T0
    · skip
      rcases hq with q | q
      · omega
      · exact absurd q.2.1 c_13

theorem d_X3_findFault_0 : Dc cX3_findFault 0 1 1 (.aload_n 0) := ⟨by decide +kernel, rfl⟩
theorem d_X3_findFault_1 : Dc cX3_findFault 1 3 4 (.invokevirtual 22) := ⟨by decide +kernel, rfl⟩
theorem d_X3_findFault_4 : Dc cX3_findFault 4 1 5 (.aload_n 0) := ⟨by decide +kernel, rfl⟩
theorem d_X3_findFault_5 : Dc cX3_findFault 5 1 6 (.iconst 1) := ⟨by decide +kernel, rfl⟩
theorem d_X3_findFault_6 : Dc cX3_findFault 6 3 9 (.putfield 25) := ⟨by decide +kernel, rfl⟩
theorem d_X3_findFault_9 : Dc cX3_findFault 9 1 10 (.aload_n 0) := ⟨by decide +kernel, rfl⟩
theorem d_X3_findFault_10 : Dc cX3_findFault 10 3 13 (.getfield 25) := ⟨by decide +kernel, rfl⟩
theorem d_X3_findFault_13 : Dc cX3_findFault 13 2 15 (.bipush 60) := ⟨by decide +kernel, rfl⟩
theorem d_X3_findFault_15 : Dj cX3_findFault 15 18 56 (.if_icmp .gt) := ⟨41, by decide +kernel, rfl, by decide⟩
theorem d_X3_findFault_18 : Dc cX3_findFault 18 1 19 (.aload_n 0) := ⟨by decide +kernel, rfl⟩
theorem d_X3_findFault_19 : Dc cX3_findFault 19 3 22 (.invokevirtual 28) := ⟨by decide +kernel, rfl⟩
theorem d_X3_findFault_22 : Dj cX3_findFault 22 25 30 (.ifCond .ne) := ⟨8, by decide +kernel, rfl, by decide⟩
theorem d_X3_findFault_25 : Dc cX3_findFault 25 1 26 (.aload_n 0) := ⟨by decide +kernel, rfl⟩
theorem d_X3_findFault_26 : Dc cX3_findFault 26 3 29 (.getfield 19) := ⟨by decide +kernel, rfl⟩
theorem d_X3_findFault_29 : decode cX3_findFault 29 = .ok (.ireturn, 1) := by decide +kernel
theorem d_X3_findFault_30 : Dc cX3_findFault 30 1 31 (.aload_n 0) := ⟨by decide +kernel, rfl⟩
theorem d_X3_findFault_31 : Dc cX3_findFault 31 3 34 (.getfield 19) := ⟨by decide +kernel, rfl⟩
theorem d_X3_findFault_34 : Dc cX3_findFault 34 1 35 (.aload_n 0) := ⟨by decide +kernel, rfl⟩
theorem d_X3_findFault_35 : Dc cX3_findFault 35 3 38 (.getfield 15) := ⟨by decide +kernel, rfl⟩
theorem d_X3_findFault_38 : Dj cX3_findFault 38 41 43 (.if_icmp .ne) := ⟨5, by decide +kernel, rfl, by decide⟩
theorem d_X3_findFault_41 : Dc cX3_findFault 41 1 42 (.iconst (-1)) := ⟨by decide +kernel, rfl⟩
theorem d_X3_findFault_42 : decode cX3_findFault 42 = .ok (.ireturn, 1) := by decide +kernel
theorem d_X3_findFault_43 : Dc cX3_findFault 43 1 44 (.aload_n 0) := ⟨by decide +kernel, rfl⟩
theorem d_X3_findFault_44 : Dc cX3_findFault 44 1 45 .dup := ⟨by decide +kernel, rfl⟩
theorem d_X3_findFault_45 : Dc cX3_findFault 45 3 48 (.getfield 25) := ⟨by decide +kernel, rfl⟩
theorem d_X3_findFault_48 : Dc cX3_findFault 48 1 49 (.iconst 1) := ⟨by decide +kernel, rfl⟩
theorem d_X3_findFault_49 : Dc cX3_findFault 49 1 50 .iadd := ⟨by decide +kernel, rfl⟩
theorem d_X3_findFault_50 : Dc cX3_findFault 50 3 53 (.putfield 25) := ⟨by decide +kernel, rfl⟩
theorem d_X3_findFault_53 : Dj cX3_findFault 53 56 9 .goto := ⟨(-44), by decide +kernel, rfl, by decide⟩
theorem d_X3_findFault_56 : Dc cX3_findFault 56 1 57 (.aload_n 0) := ⟨by decide +kernel, rfl⟩
theorem d_X3_findFault_57 : Dc cX3_findFault 57 3 60 (.getfield 19) := ⟨by decide +kernel, rfl⟩
theorem d_X3_findFault_60 : decode cX3_findFault 60 = .ok (.ireturn, 1) := by decide +kernel
set_option maxHeartbeats 4000000 in
set_option maxRecDepth 20000 in
theorem c_X3_findFault {E : Ev} {n : Nat} {M : Mem} {m : Nat} {tx : Int → Int} {ln th nx ki pa co fo fr un da : Int} (ht : txB tx ln) (hs : 0 ≤ nx ∧ nx ≤ ln) : MT E yX3_findFault cX3_findFault 1 (some .int) 5 0 0 [.ref m] n (xtU E M m tx ln th nx ki pa co fo fr un da) ((fun v n' M' => n' = n ∧ v = some (.int (iI (if (RF tx ln 61 0 0).2.2 = 0 then -1 else (RF tx ln 61 0 0).2.1))) ∧ ∃ th' nx' ki' pa' co' fo' fr' un' da' : Int, M' = xtU E M m tx ln th' nx' ki' pa' co' fo' fr' un' da' ∧ ((RF tx ln 61 0 0).2.2 = 0 → th' = (RF tx ln 61 0 0).1))) := by
  refine MT.of (by decide) rfl (Nat.le_of_ble_eq_true rfl) ?_
  intro X g
  have g0 := g.1
  show V E X 0 0 n (xtU E M m tx ln th nx ki pa co fo fr un da) 0 [some (.ref m)] []
  have htx := ht.2
  have hl := ht.1
  refine V.al0 g0 d_X3_findFault_0 ?_
  refine V.callVf g0 (c_X3_goToStart ht hs) ky_X3_goToStart ki_X3_goToStart ks2_X3_goToStart lk_X3_22 (by first | exact xt_0 | exact xt_1) rfl rfl (Nat.le_of_ble_eq_true rfl) ⟨Nat.zero_le _, Nat.zero_le _⟩ rfl rfl (Nat.le_of_ble_eq_true rfl) d_X3_findFault_1 ?_
  refine V.al0 g0 d_X3_findFault_4 ?_
  refine V.iconst g0 d_X3_findFault_5 ?_
  refine V.putf g0 d_X3_findFault_6 fp_X3_25 (by first | exact xt_0 | exact xt_1) (Nat.le_of_ble_eq_true rfl) rfl rfl ?_
  first | refine V.eqM xt_u0 ?_ | refine V.eqM xt_u1 ?_
  have LP : ∀ (f : Nat) (th1 nx1 ki1 pa1 co1 fo1 fr1 un1 da1 : Int), ln - nx1 < f → (0 ≤ nx1 ∧ nx1 ≤ ln) → (1 ≤ th1 ∧ th1 - 1 ≤ nx1 ∧ (nx1 < ln ∨ nx1 = 0)) → ((nx1 = 0 ∧ (RF tx ln 61 0 0) = RF tx ln f 0 (th1 - 1)) ∨ (0 < nx1 ∧ (RF tx ln 61 0 0) = (if tkW tx ln nx1 0 59 59 = 0 then RF tx ln f (tkS tx ln nx1 0 59 59) (th1 - 1) else (th1 - 1, tkS tx ln nx1 0 59 59, 1)))) → V E X 0 0 n (xtU E M m tx ln th1 nx1 ki1 pa1 co1 fo1 fr1 un1 da1) 9 [some (.ref m)] [] := by
    intro f
    induction f using Nat.strongRecOn with
    | _ f ih =>
    intro th1 nx1 ki1 pa1 co1 fo1 fr1 un1 da1 hf hs1 hth hR
    refine V.al0 g0 d_X3_findFault_9 ?_
    refine V.getf g0 d_X3_findFault_10 fl_X3_25 (by first | exact xt_0 | exact xt_1) (by rfl) ?_
    refine V.bipush g0 d_X3_findFault_13 (by decide) ?_
    refine V.icmpgt g0 d_X3_findFault_15 (by omega) (fun c_15 => ?_) (fun c_15 => ?_)
    · skip
      exfalso; omega
    · skip
      refine V.al0 g0 d_X3_findFault_18 ?_
      by_cases hsep : 0 < nx1 ∧ ¬ nxt tx ln nx1 0 59 59
      · refine V.callVf g0 (c_X3_readNext0 ht hs1 hsep) ky_X3_readNext ki_X3_readNext ks2_X3_readNext lk_X3_28 xt_0 rfl rfl (Nat.le_of_ble_eq_true rfl) ⟨Nat.zero_le _, Nat.zero_le _⟩ rfl rfl (Nat.le_of_ble_eq_true rfl) d_X3_findFault_19 ?_
        refine V.ifne g0 d_X3_findFault_22 (by omega) (fun c_22 => ?_) (fun c_22 => ?_)
        · skip
          exfalso; omega
        · skip
          refine V.al0 g0 d_X3_findFault_25 ?_
          refine V.getf g0 d_X3_findFault_26 fl_X3_19 (by first | exact xt_0 | exact xt_1) (by rfl) ?_
          refine V.iret g d_X3_findFault_29 (Nat.zero_le _) (Nat.zero_le _) ?_
          have e : (RF tx ln 61 0 0) = (th1 - 1, nx1 + 0, 1) := by
            rcases hR with q | q
            · omega
            · rw [q.2, (tk_no hsep.2).2.2, (tk_no hsep.2).2.1]; rfl
          rw [e, Int.add_zero]; exact ⟨rfl, rfl, _, _, _, _, _, _, _, _, _, rfl, fun q => absurd (show (1 : Int) = 0 from q) (by decide)⟩
      · obtain ⟨sp, hq, hsp0, hR2⟩ : ∃ sp, nxAt tx ln nx1 sp ∧ (0 ≤ sp ∧ sp ≤ ln ∧ nx1 ≤ sp) ∧ (RF tx ln 61 0 0) = RF tx ln f sp (th1 - 1) := by
          rcases hR with q | q
          · exact ⟨0, Or.inl ⟨q.1, rfl⟩, by omega, q.2⟩
          · have hy : nxt tx ln nx1 0 59 59 := Classical.byContradiction (fun w => hsep ⟨q.1, w⟩)
            have := hy.2.1
            refine ⟨nx1 + 1, Or.inr ⟨q.1, hy, rfl⟩, by omega, ?_⟩
            rw [q.2, (tk_yes hy).2.2.1, (tk_yes hy).2.1, if_pos rfl]
        have rb := rd1_b (f1 := 0) (f2 := 0) (f3 := 0) (f4 := 0) (f5 := 0) ht ⟨hsp0.1, hsp0.2.1⟩
        rw [show rd1 tx ln sp 0 0 0 0 0 = rd0 tx ln sp from rfl] at rb
        refine V.callV g0 (c_X3_readNext1 ht hs1 hq) ky_X3_readNext ki_X3_readNext ks2_X3_readNext lk_X3_28 xt_0 rfl rfl (Nat.le_of_ble_eq_true rfl) ⟨Nat.zero_le _, Nat.zero_le _⟩ rfl rfl (Nat.le_of_ble_eq_true rfl) d_X3_findFault_19 (fun v_19 n_19 M_19 h_19 => ?_)
        obtain ⟨e2, ki', pa', co', fo', fr', un', da', rfl, rfl, hv⟩ := h_19
        replace e2 := e2.symm
        subst e2
        refine V.ifneB g0 d_X3_findFault_22 (fun c_22 => ?_) (fun c_22 => ?_)
        · skip
          refine V.al0 g0 d_X3_findFault_30 ?_
          refine V.getf g0 d_X3_findFault_31 fl_X3_19 (by first | exact xt_0 | exact xt_1) (by rfl) ?_
          refine V.al0 g0 d_X3_findFault_34 ?_
          refine V.getf g0 d_X3_findFault_35 fl_X3_15 (by first | exact xt_0 | exact xt_1) (by rfl) ?_
          refine V.icmpne g0 d_X3_findFault_38 (by omega) (fun c_38 => ?_) (fun c_38 => ?_)
          · skip
            have hpr := (rb.2.2.1 c_22).1
            refine V.al0 g0 d_X3_findFault_43 ?_
            refine V.dup g0 d_X3_findFault_44 rfl ?_
            refine V.getf g0 d_X3_findFault_45 fl_X3_25 (by first | exact xt_0 | exact xt_1) (by rfl) ?_
            refine V.iconst g0 d_X3_findFault_48 ?_
            refine V.iadd g0 d_X3_findFault_49 ?_
            refine V.putf g0 d_X3_findFault_50 fp_X3_25 (by first | exact xt_0 | exact xt_1) (Nat.le_of_ble_eq_true rfl) rfl rfl ?_
            first | refine V.eqM xt_u0 ?_ | refine V.eqM xt_u1 ?_
            refine V.goto g0 d_X3_findFault_53 ?_
            exact ih (f - 1) (by omega) (th1 + 1) _ _ _ _ _ _ _ _ (by omega) rb.1 (by omega) (Or.inr ⟨by omega, by
              rw [hR2, show th1 + 1 - 1 = th1 - 1 + 1 by omega]
              by_cases hsp3 : tkW tx ln (rd0 tx ln sp).1 0 59 59 = 0
              · rw [if_pos hsp3]; exact RF_step (by omega) c_22 (by show (rd0 tx ln sp).1 < ln; omega) hsp3
              · rw [if_neg hsp3, RF_sep (by omega) c_22 (by show (rd0 tx ln sp).1 < ln; omega) hsp3]⟩)
          · skip
            refine V.iconst g0 d_X3_findFault_41 ?_
            refine V.iret g d_X3_findFault_42 (Nat.zero_le _) (Nat.zero_le _) ?_
            have e : (RF tx ln 61 0 0) = (th1 - 1 + 1, (rd0 tx ln sp).1, 0) := hR2.trans (RF_done (by omega) c_22 (by show ¬ (rd0 tx ln sp).1 < ln; omega))
            rw [e]; exact ⟨rfl, rfl, _, _, _, _, _, _, _, _, _, rfl, fun _ => by show th1 = th1 - 1 + 1; omega⟩
        · skip
          refine V.al0 g0 d_X3_findFault_25 ?_
          refine V.getf g0 d_X3_findFault_26 fl_X3_19 (by first | exact xt_0 | exact xt_1) (by rfl) ?_
          refine V.iret g d_X3_findFault_29 (Nat.zero_le _) (Nat.zero_le _) ?_
          have e : (RF tx ln 61 0 0) = (th1 - 1, (rd0 tx ln sp).1, 1) := hR2.trans (RF_end (by omega) c_22)
          rw [e]; exact ⟨rfl, rfl, _, _, _, _, _, _, _, _, _, rfl, fun q => absurd (show (1 : Int) = 0 from q) (by decide)⟩
  exact LP 61 1 0 ki pa co fo fr un da (by omega) (by omega) (by omega) (Or.inl ⟨rfl, rfl⟩)
