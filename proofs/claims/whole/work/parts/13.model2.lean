theorem lcLe_n : lcLe [] [] := trivial
theorem lcLe_s {a : Option Value} {r t : List (Option Value)} (h : lcLe r t) : lcLe (a :: r) (a :: t) := ⟨Or.inr rfl, h⟩
theorem lcLe_f {b : Option Value} {r t : List (Option Value)} (h : lcLe r t) : lcLe (none :: r) (b :: t) := ⟨Or.inl rfl, h⟩
theorem V.weak2 {E : Ev} {X : Cx} {nc ns n pc : Nat} {M : Mem} {lc lc' : List (Option Value)} {st : List Value} (k : V E X nc ns n M pc lc' st) (h : lcLe lc' lc) : V E X nc ns n M pc lc st := V.weak h k
theorem d_X7_stamps_0 : Dc cX7_stamps 0 1 1 (.aload_n 0) := ⟨by decide +kernel, rfl⟩
theorem d_X7_stamps_1 : Dc cX7_stamps 1 3 4 (.getfield 7) := ⟨by decide +kernel, rfl⟩
theorem d_X7_stamps_4 : Dc cX7_stamps 4 1 5 (.iload_n 1) := ⟨by decide +kernel, rfl⟩
theorem d_X7_stamps_5 : Dc cX7_stamps 5 2 7 (.bipush 9) := ⟨by decide +kernel, rfl⟩
theorem d_X7_stamps_7 : Dc cX7_stamps 7 1 8 (.aload_n 0) := ⟨by decide +kernel, rfl⟩
theorem d_X7_stamps_8 : Dc cX7_stamps 8 1 9 (.iload_n 1) := ⟨by decide +kernel, rfl⟩
theorem d_X7_stamps_9 : Dc cX7_stamps 9 2 11 (.bipush 8) := ⟨by decide +kernel, rfl⟩
theorem d_X7_stamps_11 : Dc cX7_stamps 11 3 14 (.invokevirtual 50) := ⟨by decide +kernel, rfl⟩
theorem d_X7_stamps_14 : Dc cX7_stamps 14 1 15 .iadd := ⟨by decide +kernel, rfl⟩
theorem d_X7_stamps_15 : Dc cX7_stamps 15 3 18 (.invokestatic 43) := ⟨by decide +kernel, rfl⟩
theorem d_X7_stamps_18 : Dc cX7_stamps 18 2 20 (.bipush 12) := ⟨by decide +kernel, rfl⟩
theorem d_X7_stamps_20 : Dc cX7_stamps 20 1 21 (.aload_n 0) := ⟨by decide +kernel, rfl⟩
theorem d_X7_stamps_21 : Dc cX7_stamps 21 3 24 (.getfield 7) := ⟨by decide +kernel, rfl⟩
theorem d_X7_stamps_24 : Dc cX7_stamps 24 3 27 (.sipush 618) := ⟨by decide +kernel, rfl⟩
theorem d_X7_stamps_27 : Dc cX7_stamps 27 1 28 .iaload := ⟨by decide +kernel, rfl⟩
theorem d_X7_stamps_28 : Dc cX7_stamps 28 1 29 .imul := ⟨by decide +kernel, rfl⟩
theorem d_X7_stamps_29 : Dc cX7_stamps 29 1 30 (.iconst 2) := ⟨by decide +kernel, rfl⟩
theorem d_X7_stamps_30 : Dc cX7_stamps 30 1 31 (.iload_n 2) := ⟨by decide +kernel, rfl⟩
theorem d_X7_stamps_31 : Dc cX7_stamps 31 1 32 .imul := ⟨by decide +kernel, rfl⟩
theorem d_X7_stamps_32 : Dc cX7_stamps 32 1 33 .iadd := ⟨by decide +kernel, rfl⟩
theorem d_X7_stamps_33 : Dc cX7_stamps 33 1 34 (.iload_n 3) := ⟨by decide +kernel, rfl⟩
theorem d_X7_stamps_34 : Dc cX7_stamps 34 1 35 .iadd := ⟨by decide +kernel, rfl⟩
theorem d_X7_stamps_35 : Dc cX7_stamps 35 1 36 .iastore := ⟨by decide +kernel, rfl⟩
theorem d_X7_stamps_36 : Dc cX7_stamps 36 1 37 (.aload_n 0) := ⟨by decide +kernel, rfl⟩
theorem d_X7_stamps_37 : Dc cX7_stamps 37 3 40 (.getfield 7) := ⟨by decide +kernel, rfl⟩
theorem d_X7_stamps_40 : Dc cX7_stamps 40 1 41 (.iload_n 1) := ⟨by decide +kernel, rfl⟩
theorem d_X7_stamps_41 : Dc cX7_stamps 41 2 43 (.bipush 8) := ⟨by decide +kernel, rfl⟩
theorem d_X7_stamps_43 : Dc cX7_stamps 43 3 46 (.invokestatic 43) := ⟨by decide +kernel, rfl⟩
theorem d_X7_stamps_46 : Dc cX7_stamps 46 1 47 .dup2 := ⟨by decide +kernel, rfl⟩
theorem d_X7_stamps_47 : Dc cX7_stamps 47 1 48 .iaload := ⟨by decide +kernel, rfl⟩
theorem d_X7_stamps_48 : Dc cX7_stamps 48 1 49 (.iconst 1) := ⟨by decide +kernel, rfl⟩
theorem d_X7_stamps_49 : Dc cX7_stamps 49 1 50 .iadd := ⟨by decide +kernel, rfl⟩
theorem d_X7_stamps_50 : Dc cX7_stamps 50 1 51 .iastore := ⟨by decide +kernel, rfl⟩
theorem d_X7_stamps_51 : decode cX7_stamps 51 = .ok (.return_, 1) := by decide +kernel
set_option maxHeartbeats 4000000 in
set_option maxRecDepth 20000 in
theorem c_X7_stamps {E : Ev} {n : Nat} {M : Mem} {m : Nat} {s : Int → Int} (hs : MS E M m s) {p : Int} (hk : OkP s p) (hp : 0 ≤ p ∧ p < 6) {c e : Int} (hk2 : s (103 * p + 8) < 16) : MT E yX7_stamps cX7_stamps 4 none 2 0 0 [.ref m, .int (iI p), .int (iI c), .int (iI e)] n M (PF (none) n (va_up M (m + 1) (ia E 622 (stampS s p c e)))) := by
  refine MT.of (by decide) rfl (Nat.le_of_ble_eq_true rfl) ?_
  intro X g
  have g0 := g.1
  show V E X 0 0 n M 0 [some (.ref m), some (.int (iI p)), some (.int (iI c)), some (.int (iI e))] []
  obtain ⟨⟨fr, hm⟩, ha⟩ := id hs
  have hmu : ∀ e, va_up M (m + 1) e m = .inr (7, .ref (m + 1) :: fr) := fun e => by rw [va_up_ne _ _ (by omega)]; exact hm
  have hau : ∀ e, va_up M (m + 1) e (m + 1) = e := fun e => va_up_self _ _ _
  have hst := hk.stm
  refine V.al0 g0 d_X7_stamps_0 ?_
  refine V.getf g0 d_X7_stamps_1 fl_X7_7 (by first | assumption | exact hmu _ | exact hau _) (by rfl) ?_
  refine V.il1 g0 d_X7_stamps_4 ?_
  refine V.bipush g0 d_X7_stamps_5 (by decide) ?_
  refine V.al0 g0 d_X7_stamps_7 ?_
  refine V.il1 g0 d_X7_stamps_8 ?_
  refine V.bipush g0 d_X7_stamps_9 (by decide) ?_
  refine V.callVp g0 (c_X7_get hs (by omega)) ky_X7_get ki_X7_get ks2_X7_get lk_X7_50 (by first | assumption | exact hmu _ | exact hau _) rfl rfl (Nat.le_of_ble_eq_true rfl) ⟨Nat.zero_le _, Nat.zero_le _⟩ rfl rfl (Nat.le_of_ble_eq_true rfl) d_X7_stamps_11 ?_
  refine V.iadd g0 d_X7_stamps_14 ?_
  refine V.callSp g0 c_X7_of ky_X7_of ks_X7_of lk_X7_43 (Nat.le_of_ble_eq_true rfl) ⟨Nat.zero_le _, Nat.zero_le _⟩ rfl rfl (Nat.le_of_ble_eq_true rfl) d_X7_stamps_15 ?_
  refine V.bipush g0 d_X7_stamps_18 (by decide) ?_
  refine V.al0 g0 d_X7_stamps_20 ?_
  refine V.getf g0 d_X7_stamps_21 fl_X7_7 (by first | assumption | exact hmu _ | exact hau _) (by rfl) ?_
  refine V.sipush g0 d_X7_stamps_24 (by decide) ?_
  refine V.iald g0 d_X7_stamps_27 (by first | assumption | exact hmu _ | exact hau _) (by omega) (by decide) ?_
  refine V.imul g0 d_X7_stamps_28 ?_
  refine V.iconst g0 d_X7_stamps_29 ?_
  refine V.il2 g0 d_X7_stamps_30 ?_
  refine V.imul g0 d_X7_stamps_31 ?_
  refine V.iadd g0 d_X7_stamps_32 ?_
  refine V.il3 g0 d_X7_stamps_33 ?_
  refine V.iadd g0 d_X7_stamps_34 ?_
  refine V.iast g0 d_X7_stamps_35 (by first | assumption | exact hmu _ | exact hau _) (by omega) (by decide) ?_
  try refine V.eqM up_up ?_
  refine V.al0 g0 d_X7_stamps_36 ?_
  refine V.getf g0 d_X7_stamps_37 fl_X7_7 (by first | assumption | exact hmu _ | exact hau _) (by rfl) ?_
  refine V.il1 g0 d_X7_stamps_40 ?_
  refine V.bipush g0 d_X7_stamps_41 (by decide) ?_
  refine V.callSp g0 c_X7_of ky_X7_of ks_X7_of lk_X7_43 (Nat.le_of_ble_eq_true rfl) ⟨Nat.zero_le _, Nat.zero_le _⟩ rfl rfl (Nat.le_of_ble_eq_true rfl) d_X7_stamps_43 ?_
  refine V.dup2 g0 d_X7_stamps_46 rfl rfl ?_
  refine V.iald g0 d_X7_stamps_47 (by first | assumption | exact hmu _ | exact hau _) (by omega) (by decide) ?_
  refine V.iconst g0 d_X7_stamps_48 ?_
  refine V.iadd g0 d_X7_stamps_49 ?_
  refine V.iast g0 d_X7_stamps_50 (by first | assumption | exact hmu _ | exact hau _) (by omega) (by decide) ?_
  try refine V.eqM up_up ?_
  refine V.vret g d_X7_stamps_51 (Nat.zero_le _) (Nat.zero_le _) ?_
  exact ⟨rfl, rfl, rfl⟩

theorem d_X7_errorOfCross_0 : Dc cX7_errorOfCross 0 1 1 (.aload_n 0) := ⟨by decide +kernel, rfl⟩
theorem d_X7_errorOfCross_1 : Dc cX7_errorOfCross 1 1 2 (.iload_n 1) := ⟨by decide +kernel, rfl⟩
theorem d_X7_errorOfCross_2 : Dc cX7_errorOfCross 2 1 3 (.iload_n 2) := ⟨by decide +kernel, rfl⟩
theorem d_X7_errorOfCross_3 : Dc cX7_errorOfCross 3 3 6 (.invokevirtual 101) := ⟨by decide +kernel, rfl⟩
theorem d_X7_errorOfCross_6 : Dj cX7_errorOfCross 6 9 11 (.ifCond .ne) := ⟨5, by decide +kernel, rfl, by decide⟩
theorem d_X7_errorOfCross_9 : Dc cX7_errorOfCross 9 1 10 (.iconst (-1)) := ⟨by decide +kernel, rfl⟩
theorem d_X7_errorOfCross_10 : decode cX7_errorOfCross 10 = .ok (.ireturn, 1) := by decide +kernel
theorem d_X7_errorOfCross_11 : Dc cX7_errorOfCross 11 1 12 (.iload_n 3) := ⟨by decide +kernel, rfl⟩
theorem d_X7_errorOfCross_12 : Dc cX7_errorOfCross 12 1 13 (.iconst 0) := ⟨by decide +kernel, rfl⟩
theorem d_X7_errorOfCross_13 : Dc cX7_errorOfCross 13 1 14 (.iconst 3) := ⟨by decide +kernel, rfl⟩
theorem d_X7_errorOfCross_14 : Dc cX7_errorOfCross 14 3 17 (.invokestatic 32) := ⟨by decide +kernel, rfl⟩
theorem d_X7_errorOfCross_17 : Dj cX7_errorOfCross 17 20 23 (.ifCond .ne) := ⟨6, by decide +kernel, rfl, by decide⟩
theorem d_X7_errorOfCross_20 : Dc cX7_errorOfCross 20 2 22 (.bipush (-2)) := ⟨by decide +kernel, rfl⟩
theorem d_X7_errorOfCross_22 : decode cX7_errorOfCross 22 = .ok (.ireturn, 1) := by decide +kernel
theorem d_X7_errorOfCross_23 : Dc cX7_errorOfCross 23 1 24 (.aload_n 0) := ⟨by decide +kernel, rfl⟩
theorem d_X7_errorOfCross_24 : Dc cX7_errorOfCross 24 1 25 (.iload_n 1) := ⟨by decide +kernel, rfl⟩
theorem d_X7_errorOfCross_25 : Dc cX7_errorOfCross 25 1 26 (.iload_n 2) := ⟨by decide +kernel, rfl⟩
theorem d_X7_errorOfCross_26 : Dc cX7_errorOfCross 26 1 27 (.iconst 2) := ⟨by decide +kernel, rfl⟩
theorem d_X7_errorOfCross_27 : Dc cX7_errorOfCross 27 1 28 (.iload_n 3) := ⟨by decide +kernel, rfl⟩
theorem d_X7_errorOfCross_28 : Dc cX7_errorOfCross 28 1 29 (.iconst 2) := ⟨by decide +kernel, rfl⟩
theorem d_X7_errorOfCross_29 : Dc cX7_errorOfCross 29 1 30 .irem := ⟨by decide +kernel, rfl⟩
theorem d_X7_errorOfCross_30 : Dc cX7_errorOfCross 30 1 31 .isub := ⟨by decide +kernel, rfl⟩
theorem d_X7_errorOfCross_31 : Dc cX7_errorOfCross 31 1 32 (.iload_n 3) := ⟨by decide +kernel, rfl⟩
theorem d_X7_errorOfCross_32 : Dc cX7_errorOfCross 32 1 33 (.iconst 2) := ⟨by decide +kernel, rfl⟩
theorem d_X7_errorOfCross_33 : Dc cX7_errorOfCross 33 1 34 .idiv := ⟨by decide +kernel, rfl⟩
theorem d_X7_errorOfCross_34 : Dc cX7_errorOfCross 34 1 35 .isub := ⟨by decide +kernel, rfl⟩
theorem d_X7_errorOfCross_35 : Dc cX7_errorOfCross 35 3 38 (.invokevirtual 104) := ⟨by decide +kernel, rfl⟩
theorem d_X7_errorOfCross_38 : Dc cX7_errorOfCross 38 2 40 (.istore 4) := ⟨by decide +kernel, rfl⟩
theorem d_X7_errorOfCross_40 : Dc cX7_errorOfCross 40 2 42 (.iload 4) := ⟨by decide +kernel, rfl⟩
theorem d_X7_errorOfCross_42 : Dj cX7_errorOfCross 42 45 53 (.ifCond .le) := ⟨11, by decide +kernel, rfl, by decide⟩
theorem d_X7_errorOfCross_45 : Dc cX7_errorOfCross 45 2 47 (.bipush (-10)) := ⟨by decide +kernel, rfl⟩
theorem d_X7_errorOfCross_47 : Dc cX7_errorOfCross 47 2 49 (.iload 4) := ⟨by decide +kernel, rfl⟩
theorem d_X7_errorOfCross_49 : Dc cX7_errorOfCross 49 1 50 .isub := ⟨by decide +kernel, rfl⟩
theorem d_X7_errorOfCross_50 : Dj cX7_errorOfCross 50 53 54 .goto := ⟨4, by decide +kernel, rfl, by decide⟩
theorem d_X7_errorOfCross_53 : Dc cX7_errorOfCross 53 1 54 (.iconst 0) := ⟨by decide +kernel, rfl⟩
theorem d_X7_errorOfCross_54 : decode cX7_errorOfCross 54 = .ok (.ireturn, 1) := by decide +kernel
set_option maxHeartbeats 4000000 in
set_option maxRecDepth 20000 in
theorem c_X7_errorOfCross {E : Ev} {n : Nat} {M : Mem} {m : Nat} {s : Int → Int} (hs : MS E M m s) {p c f : Int} (hO : Ok s) (h1 : rg p) (h2 : rg c) (h3 : rg f) : MT E yX7_errorOfCross cX7_errorOfCross 5 (some .int) 10 0 0 [.ref m, .int (iI p), .int (iI c), .int (iI f)] n M (PF (some (.int (iI (errCross s p c f)))) n M) := by
  refine MT.of (by decide) rfl (Nat.le_of_ble_eq_true rfl) ?_
  intro X g
  have g0 := g.1
  show V E X 0 0 n M 0 [some (.ref m), some (.int (iI p)), some (.int (iI c)), some (.int (iI f)), none] []
  obtain ⟨⟨fr, hm⟩, ha⟩ := id hs
  have hmn := hO.many
  have hcl := hO.clo
  have hhb := hindr_b s p c (2 - f % 2 - f / 2)
  refine V.al0 g0 d_X7_errorOfCross_0 ?_
  refine V.il1 g0 d_X7_errorOfCross_1 ?_
  refine V.il2 g0 d_X7_errorOfCross_2 ?_
  refine V.callVp g0 (c_X7_areThere hs h1 h2 hO.many) ky_X7_areThere ki_X7_areThere ks2_X7_areThere lk_X7_101 (by assumption) rfl rfl (Nat.le_of_ble_eq_true rfl) ⟨Nat.zero_le _, Nat.zero_le _⟩ rfl rfl (Nat.le_of_ble_eq_true rfl) d_X7_errorOfCross_3 ?_
  refine V.ifneB g0 d_X7_errorOfCross_6 (fun c_6 => ?_) (fun c_6 => ?_)
  · skip
    refine V.il3 g0 d_X7_errorOfCross_11 ?_
    refine V.iconst g0 d_X7_errorOfCross_12 ?_
    refine V.iconst g0 d_X7_errorOfCross_13 ?_
    refine V.callSp g0 (c_X7_in h3 (by decide) (by decide)) ky_X7_in ks_X7_in lk_X7_32 (Nat.le_of_ble_eq_true rfl) ⟨Nat.zero_le _, Nat.zero_le _⟩ rfl rfl (Nat.le_of_ble_eq_true rfl) d_X7_errorOfCross_14 ?_
    refine V.ifneB g0 d_X7_errorOfCross_17 (fun c_17 => ?_) (fun c_17 => ?_)
    · skip
      refine V.al0 g0 d_X7_errorOfCross_23 ?_
      refine V.il1 g0 d_X7_errorOfCross_24 ?_
      refine V.il2 g0 d_X7_errorOfCross_25 ?_
      refine V.iconst g0 d_X7_errorOfCross_26 ?_
      refine V.il3 g0 d_X7_errorOfCross_27 ?_
      refine V.iconst g0 d_X7_errorOfCross_28 ?_
      refine V.irem g0 d_X7_errorOfCross_29 (by omega) (by decide) ?_
      refine V.isub g0 d_X7_errorOfCross_30 ?_
      refine V.il3 g0 d_X7_errorOfCross_31 ?_
      refine V.iconst g0 d_X7_errorOfCross_32 ?_
      refine V.idiv g0 d_X7_errorOfCross_33 (by omega) (by decide) ?_
      refine V.isub g0 d_X7_errorOfCross_34 ?_
      refine V.callVp g0 (c_X7_hindrance hs (hO.at c_6.1.1 (by omega)) ⟨c_6.1.1, by omega⟩ (by omega) (by omega) hcl) ky_X7_hindrance ki_X7_hindrance ks2_X7_hindrance lk_X7_104 (by assumption) rfl rfl (Nat.le_of_ble_eq_true rfl) ⟨Nat.zero_le _, Nat.zero_le _⟩ rfl rfl (Nat.le_of_ble_eq_true rfl) d_X7_errorOfCross_35 ?_
      refine V.is4 g0 d_X7_errorOfCross_38 ?_
      refine V.il4 g0 d_X7_errorOfCross_40 ?_
      refine V.ifle g0 d_X7_errorOfCross_42 (by omega) (fun c_42 => ?_) (fun c_42 => ?_)
      · skip
        refine V.iconst g0 d_X7_errorOfCross_53 ?_
        refine V.iret g d_X7_errorOfCross_54 (Nat.zero_le _) (Nat.zero_le _) ⟨congrArg (fun z => some (Value.int (iI z))) ?_, rfl, rfl⟩
        rw [errCross, if_neg (fun h => h c_6), if_neg (fun h => h c_17), if_neg (by omega)]
      · skip
        refine V.bipush g0 d_X7_errorOfCross_45 (by decide) ?_
        refine V.il4 g0 d_X7_errorOfCross_47 ?_
        refine V.isub g0 d_X7_errorOfCross_49 ?_
        refine V.goto g0 d_X7_errorOfCross_50 ?_
        refine V.iret g d_X7_errorOfCross_54 (Nat.zero_le _) (Nat.zero_le _) ⟨congrArg (fun z => some (Value.int (iI z))) ?_, rfl, rfl⟩
        rw [errCross, if_neg (fun h => h c_6), if_neg (fun h => h c_17), if_pos (by omega)]
    · skip
      refine V.bipush g0 d_X7_errorOfCross_20 (by decide) ?_
      refine V.iret g d_X7_errorOfCross_22 (Nat.zero_le _) (Nat.zero_le _) ⟨congrArg (fun z => some (Value.int (iI z))) ?_, rfl, rfl⟩
      rw [errCross, if_neg (fun h => h c_6), if_pos c_17]
  · skip
    refine V.iconst g0 d_X7_errorOfCross_9 ?_
    refine V.iret g d_X7_errorOfCross_10 (Nat.zero_le _) (Nat.zero_le _) ⟨congrArg (fun z => some (Value.int (iI z))) ?_, rfl, rfl⟩
    rw [errCross, if_pos c_6]

theorem d_X7_crosses_0 : Dc cX7_crosses 0 1 1 (.iload_n 3) := ⟨by decide +kernel, rfl⟩
theorem d_X7_crosses_1 : Dc cX7_crosses 1 1 2 (.iconst 2) := ⟨by decide +kernel, rfl⟩
theorem d_X7_crosses_2 : Dc cX7_crosses 2 1 3 .irem := ⟨by decide +kernel, rfl⟩
theorem d_X7_crosses_3 : Dj cX7_crosses 3 6 18 (.ifCond .ne) := ⟨15, by decide +kernel, rfl, by decide⟩
theorem d_X7_crosses_6 : Dc cX7_crosses 6 1 7 (.aload_n 0) := ⟨by decide +kernel, rfl⟩
theorem d_X7_crosses_7 : Dc cX7_crosses 7 1 8 (.iload_n 1) := ⟨by decide +kernel, rfl⟩
theorem d_X7_crosses_8 : Dc cX7_crosses 8 1 9 (.aload_n 0) := ⟨by decide +kernel, rfl⟩
theorem d_X7_crosses_9 : Dc cX7_crosses 9 1 10 (.iload_n 1) := ⟨by decide +kernel, rfl⟩
theorem d_X7_crosses_10 : Dc cX7_crosses 10 1 11 (.iconst 2) := ⟨by decide +kernel, rfl⟩
theorem d_X7_crosses_11 : Dc cX7_crosses 11 3 14 (.invokevirtual 50) := ⟨by decide +kernel, rfl⟩
theorem d_X7_crosses_14 : Dc cX7_crosses 14 1 15 (.iconst 0) := ⟨by decide +kernel, rfl⟩
theorem d_X7_crosses_15 : Dc cX7_crosses 15 3 18 (.invokevirtual 107) := ⟨by decide +kernel, rfl⟩
theorem d_X7_crosses_18 : Dc cX7_crosses 18 1 19 (.iload_n 3) := ⟨by decide +kernel, rfl⟩
theorem d_X7_crosses_19 : Dc cX7_crosses 19 1 20 (.iconst 2) := ⟨by decide +kernel, rfl⟩
theorem d_X7_crosses_20 : Dj cX7_crosses 20 23 30 (.if_icmp .ge) := ⟨10, by decide +kernel, rfl, by decide⟩
theorem d_X7_crosses_23 : Dc cX7_crosses 23 1 24 (.aload_n 0) := ⟨by decide +kernel, rfl⟩
theorem d_X7_crosses_24 : Dc cX7_crosses 24 1 25 (.iload_n 1) := ⟨by decide +kernel, rfl⟩
theorem d_X7_crosses_25 : Dc cX7_crosses 25 1 26 (.iload_n 2) := ⟨by decide +kernel, rfl⟩
theorem d_X7_crosses_26 : Dc cX7_crosses 26 1 27 (.iconst 1) := ⟨by decide +kernel, rfl⟩
theorem d_X7_crosses_27 : Dc cX7_crosses 27 3 30 (.invokevirtual 107) := ⟨by decide +kernel, rfl⟩
theorem d_X7_crosses_30 : Dc cX7_crosses 30 1 31 (.aload_n 0) := ⟨by decide +kernel, rfl⟩
theorem d_X7_crosses_31 : Dc cX7_crosses 31 3 34 (.getfield 7) := ⟨by decide +kernel, rfl⟩
theorem d_X7_crosses_34 : Dc cX7_crosses 34 3 37 (.sipush 621) := ⟨by decide +kernel, rfl⟩
theorem d_X7_crosses_37 : Dc cX7_crosses 37 1 38 .dup2 := ⟨by decide +kernel, rfl⟩
theorem d_X7_crosses_38 : Dc cX7_crosses 38 1 39 .iaload := ⟨by decide +kernel, rfl⟩
theorem d_X7_crosses_39 : Dc cX7_crosses 39 1 40 (.iload_n 3) := ⟨by decide +kernel, rfl⟩
theorem d_X7_crosses_40 : Dc cX7_crosses 40 1 41 (.iconst 2) := ⟨by decide +kernel, rfl⟩
theorem d_X7_crosses_41 : Dc cX7_crosses 41 1 42 .irem := ⟨by decide +kernel, rfl⟩
theorem d_X7_crosses_42 : Dc cX7_crosses 42 1 43 (.iload_n 3) := ⟨by decide +kernel, rfl⟩
theorem d_X7_crosses_43 : Dc cX7_crosses 43 1 44 (.iconst 2) := ⟨by decide +kernel, rfl⟩
theorem d_X7_crosses_44 : Dc cX7_crosses 44 1 45 .idiv := ⟨by decide +kernel, rfl⟩
theorem d_X7_crosses_45 : Dc cX7_crosses 45 1 46 .iadd := ⟨by decide +kernel, rfl⟩
theorem d_X7_crosses_46 : Dc cX7_crosses 46 1 47 .iadd := ⟨by decide +kernel, rfl⟩
theorem d_X7_crosses_47 : Dc cX7_crosses 47 1 48 .iastore := ⟨by decide +kernel, rfl⟩
theorem d_X7_crosses_48 : Dc cX7_crosses 48 1 49 (.aload_n 0) := ⟨by decide +kernel, rfl⟩
theorem d_X7_crosses_49 : Dc cX7_crosses 49 3 52 (.getfield 7) := ⟨by decide +kernel, rfl⟩
theorem d_X7_crosses_52 : Dc cX7_crosses 52 1 53 (.iload_n 1) := ⟨by decide +kernel, rfl⟩
theorem d_X7_crosses_53 : Dc cX7_crosses 53 2 55 (.bipush 43) := ⟨by decide +kernel, rfl⟩
theorem d_X7_crosses_55 : Dc cX7_crosses 55 1 56 (.aload_n 0) := ⟨by decide +kernel, rfl⟩
theorem d_X7_crosses_56 : Dc cX7_crosses 56 1 57 (.iload_n 1) := ⟨by decide +kernel, rfl⟩
theorem d_X7_crosses_57 : Dc cX7_crosses 57 1 58 (.iconst 3) := ⟨by decide +kernel, rfl⟩
theorem d_X7_crosses_58 : Dc cX7_crosses 58 3 61 (.invokevirtual 50) := ⟨by decide +kernel, rfl⟩
theorem d_X7_crosses_61 : Dc cX7_crosses 61 1 62 .iadd := ⟨by decide +kernel, rfl⟩
theorem d_X7_crosses_62 : Dc cX7_crosses 62 3 65 (.invokestatic 43) := ⟨by decide +kernel, rfl⟩
theorem d_X7_crosses_65 : Dc cX7_crosses 65 2 67 (.bipush 6) := ⟨by decide +kernel, rfl⟩
theorem d_X7_crosses_67 : Dc cX7_crosses 67 1 68 (.aload_n 0) := ⟨by decide +kernel, rfl⟩
theorem d_X7_crosses_68 : Dc cX7_crosses 68 3 71 (.getfield 7) := ⟨by decide +kernel, rfl⟩
theorem d_X7_crosses_71 : Dc cX7_crosses 71 3 74 (.sipush 618) := ⟨by decide +kernel, rfl⟩
theorem d_X7_crosses_74 : Dc cX7_crosses 74 1 75 .iaload := ⟨by decide +kernel, rfl⟩
theorem d_X7_crosses_75 : Dc cX7_crosses 75 1 76 .imul := ⟨by decide +kernel, rfl⟩
theorem d_X7_crosses_76 : Dc cX7_crosses 76 1 77 (.iload_n 2) := ⟨by decide +kernel, rfl⟩
theorem d_X7_crosses_77 : Dc cX7_crosses 77 1 78 .iadd := ⟨by decide +kernel, rfl⟩
theorem d_X7_crosses_78 : Dc cX7_crosses 78 1 79 .iastore := ⟨by decide +kernel, rfl⟩
theorem d_X7_crosses_79 : Dc cX7_crosses 79 1 80 (.aload_n 0) := ⟨by decide +kernel, rfl⟩
theorem d_X7_crosses_80 : Dc cX7_crosses 80 3 83 (.getfield 7) := ⟨by decide +kernel, rfl⟩
theorem d_X7_crosses_83 : Dc cX7_crosses 83 1 84 (.iload_n 1) := ⟨by decide +kernel, rfl⟩
theorem d_X7_crosses_84 : Dc cX7_crosses 84 1 85 (.iconst 3) := ⟨by decide +kernel, rfl⟩
theorem d_X7_crosses_85 : Dc cX7_crosses 85 3 88 (.invokestatic 43) := ⟨by decide +kernel, rfl⟩
theorem d_X7_crosses_88 : Dc cX7_crosses 88 1 89 .dup2 := ⟨by decide +kernel, rfl⟩
theorem d_X7_crosses_89 : Dc cX7_crosses 89 1 90 .iaload := ⟨by decide +kernel, rfl⟩
theorem d_X7_crosses_90 : Dc cX7_crosses 90 1 91 (.iconst 1) := ⟨by decide +kernel, rfl⟩
theorem d_X7_crosses_91 : Dc cX7_crosses 91 1 92 .iadd := ⟨by decide +kernel, rfl⟩
theorem d_X7_crosses_92 : Dc cX7_crosses 92 1 93 .iastore := ⟨by decide +kernel, rfl⟩
theorem d_X7_crosses_93 : Dc cX7_crosses 93 1 94 (.aload_n 0) := ⟨by decide +kernel, rfl⟩
theorem d_X7_crosses_94 : Dc cX7_crosses 94 3 97 (.getfield 7) := ⟨by decide +kernel, rfl⟩
theorem d_X7_crosses_97 : Dc cX7_crosses 97 1 98 (.iload_n 1) := ⟨by decide +kernel, rfl⟩
theorem d_X7_crosses_98 : Dc cX7_crosses 98 1 99 (.iconst 2) := ⟨by decide +kernel, rfl⟩
theorem d_X7_crosses_99 : Dc cX7_crosses 99 3 102 (.invokestatic 43) := ⟨by decide +kernel, rfl⟩
theorem d_X7_crosses_102 : Dc cX7_crosses 102 1 103 (.iload_n 2) := ⟨by decide +kernel, rfl⟩
theorem d_X7_crosses_103 : Dc cX7_crosses 103 1 104 .iastore := ⟨by decide +kernel, rfl⟩
theorem d_X7_crosses_104 : Dc cX7_crosses 104 1 105 (.aload_n 0) := ⟨by decide +kernel, rfl⟩
theorem d_X7_crosses_105 : Dc cX7_crosses 105 1 106 (.iload_n 1) := ⟨by decide +kernel, rfl⟩
theorem d_X7_crosses_106 : Dc cX7_crosses 106 2 108 (.bipush 8) := ⟨by decide +kernel, rfl⟩
theorem d_X7_crosses_108 : Dc cX7_crosses 108 3 111 (.invokevirtual 50) := ⟨by decide +kernel, rfl⟩
theorem d_X7_crosses_111 : decode cX7_crosses 111 = .ok (.ireturn, 1) := by decide +kernel
set_option maxHeartbeats 4000000 in
set_option maxRecDepth 20000 in
theorem c_X7_crosses {E : Ev} {n : Nat} {M : Mem} {m : Nat} {s : Int → Int} (hs : MS E M m s) {p : Int} (hk : OkP s p) (hp : 0 ≤ p ∧ p < 6) {c f : Int} (hc : 0 ≤ c ∧ c ≤ 5) (hf : 0 ≤ f ∧ f ≤ 3) (hk2 : s (103 * p + 8) + (2 - f % 2 - f / 2) ≤ 16) (h3 : s (103 * p + 3) < 60) : MT E yX7_crosses cX7_crosses 4 (some .int) 3 0 0 [.ref m, .int (iI p), .int (iI c), .int (iI f)] n M (PF (some (.int (iI (crossS s p c f (103 * p + 8))))) n (va_up M (m + 1) (ia E 622 (crossS s p c f)))) := by
  refine MT.of (by decide) rfl (Nat.le_of_ble_eq_true rfl) ?_
  intro X g
  have g0 := g.1
  show V E X 0 0 n M 0 [some (.ref m), some (.int (iI p)), some (.int (iI c)), some (.int (iI f))] []
  obtain ⟨⟨fr, hm⟩, ha⟩ := id hs
  have hmu : ∀ e, va_up M (m + 1) e m = .inr (7, .ref (m + 1) :: fr) := fun e => by rw [va_up_ne _ _ (by omega)]; exact hm
  have hau : ∀ e, va_up M (m + 1) e (m + 1) = e := fun e => va_up_self _ _ _
  have hst := hk.stm
  have hcr := hk.crs
  have hw := hk.whr
  have n3 := crossB_n (s := s) (p := p) (c := c) (f := f) (j := 103 * p + 3) (Or.inl (by omega)) hf ⟨hst.1, hk2⟩
  have c3 : crossC s p c f (103 * p + 3) = s (103 * p + 3) := by unfold crossC; rw [upI_n _ _ (by omega)]; exact n3
  have hA8 := crossA_8 (s := s) (p := p) (f := f) hst.1 hf.1
  have TL : V E X 0 0 n (va_up M (m + 1) (ia E 622 (crossB s p c f))) 30 [some (.ref m), some (.int (iI p)), some (.int (iI c)), some (.int (iI f))] [] := by
    skip
    refine V.al0 g0 d_X7_crosses_30 ?_
    refine V.getf g0 d_X7_crosses_31 fl_X7_7 (by first | assumption | exact hmu _ | exact hau _) (by rfl) ?_
    refine V.sipush g0 d_X7_crosses_34 (by decide) ?_
    refine V.dup2 g0 d_X7_crosses_37 rfl rfl ?_
    refine V.iald g0 d_X7_crosses_38 (by first | assumption | exact hmu _ | exact hau _) (by omega) (by decide) ?_
    refine V.il3 g0 d_X7_crosses_39 ?_
    refine V.iconst g0 d_X7_crosses_40 ?_
    refine V.irem g0 d_X7_crosses_41 (by omega) (by decide) ?_
    refine V.il3 g0 d_X7_crosses_42 ?_
    refine V.iconst g0 d_X7_crosses_43 ?_
    refine V.idiv g0 d_X7_crosses_44 (by omega) (by decide) ?_
    refine V.iadd g0 d_X7_crosses_45 ?_
    refine V.iadd g0 d_X7_crosses_46 ?_
    refine V.iast g0 d_X7_crosses_47 (by first | assumption | exact hmu _ | exact hau _) (by omega) (by decide) ?_
    try refine V.eqM up_up ?_
    change V E X 0 0 n (va_up M (m + 1) (ia E 622 (crossC s p c f))) _ _ _
    refine V.al0 g0 d_X7_crosses_48 ?_
    refine V.getf g0 d_X7_crosses_49 fl_X7_7 (by first | assumption | exact hmu _ | exact hau _) (by rfl) ?_
    refine V.il1 g0 d_X7_crosses_52 ?_
    refine V.bipush g0 d_X7_crosses_53 (by decide) ?_
    refine V.al0 g0 d_X7_crosses_55 ?_
    refine V.il1 g0 d_X7_crosses_56 ?_
    refine V.iconst g0 d_X7_crosses_57 ?_
    refine V.callVp g0 (c_X7_get (MS.up hs (crossC s p c f)) (by omega)) ky_X7_get ki_X7_get ks2_X7_get lk_X7_50 (by first | assumption | exact hmu _ | exact hau _) rfl rfl (Nat.le_of_ble_eq_true rfl) ⟨Nat.zero_le _, Nat.zero_le _⟩ rfl rfl (Nat.le_of_ble_eq_true rfl) d_X7_crosses_58 ?_
    refine V.iadd g0 d_X7_crosses_61 ?_
    refine V.callSp g0 c_X7_of ky_X7_of ks_X7_of lk_X7_43 (Nat.le_of_ble_eq_true rfl) ⟨Nat.zero_le _, Nat.zero_le _⟩ rfl rfl (Nat.le_of_ble_eq_true rfl) d_X7_crosses_62 ?_
    refine V.bipush g0 d_X7_crosses_65 (by decide) ?_
    refine V.al0 g0 d_X7_crosses_67 ?_
    refine V.getf g0 d_X7_crosses_68 fl_X7_7 (by first | assumption | exact hmu _ | exact hau _) (by rfl) ?_
    refine V.sipush g0 d_X7_crosses_71 (by decide) ?_
    refine V.iald g0 d_X7_crosses_74 (by first | assumption | exact hmu _ | exact hau _) (by omega) (by decide) ?_
    refine V.imul g0 d_X7_crosses_75 ?_
    refine V.il2 g0 d_X7_crosses_76 ?_
    refine V.iadd g0 d_X7_crosses_77 ?_
    refine V.iast g0 d_X7_crosses_78 (by first | assumption | exact hmu _ | exact hau _) (by rw [c3]; omega) (by decide) ?_
    try refine V.eqM up_up ?_
    change V E X 0 0 n (va_up M (m + 1) (ia E 622 (crossD s p c f))) _ _ _
    refine V.al0 g0 d_X7_crosses_79 ?_
    refine V.getf g0 d_X7_crosses_80 fl_X7_7 (by first | assumption | exact hmu _ | exact hau _) (by rfl) ?_
    refine V.il1 g0 d_X7_crosses_83 ?_
    refine V.iconst g0 d_X7_crosses_84 ?_
    refine V.callSp g0 c_X7_of ky_X7_of ks_X7_of lk_X7_43 (Nat.le_of_ble_eq_true rfl) ⟨Nat.zero_le _, Nat.zero_le _⟩ rfl rfl (Nat.le_of_ble_eq_true rfl) d_X7_crosses_85 ?_
    refine V.dup2 g0 d_X7_crosses_88 rfl rfl ?_
    refine V.iald g0 d_X7_crosses_89 (by first | assumption | exact hmu _ | exact hau _) (by omega) (by decide) ?_
    refine V.iconst g0 d_X7_crosses_90 ?_
    refine V.iadd g0 d_X7_crosses_91 ?_
    refine V.iast g0 d_X7_crosses_92 (by first | assumption | exact hmu _ | exact hau _) (by omega) (by decide) ?_
    try refine V.eqM up_up ?_
    change V E X 0 0 n (va_up M (m + 1) (ia E 622 (crossE s p c f))) _ _ _
    refine V.al0 g0 d_X7_crosses_93 ?_
    refine V.getf g0 d_X7_crosses_94 fl_X7_7 (by first | assumption | exact hmu _ | exact hau _) (by rfl) ?_
    refine V.il1 g0 d_X7_crosses_97 ?_
    refine V.iconst g0 d_X7_crosses_98 ?_
    refine V.callSp g0 c_X7_of ky_X7_of ks_X7_of lk_X7_43 (Nat.le_of_ble_eq_true rfl) ⟨Nat.zero_le _, Nat.zero_le _⟩ rfl rfl (Nat.le_of_ble_eq_true rfl) d_X7_crosses_99 ?_
    refine V.il2 g0 d_X7_crosses_102 ?_
    refine V.iast g0 d_X7_crosses_103 (by first | assumption | exact hmu _ | exact hau _) (by omega) (by decide) ?_
    try refine V.eqM up_up ?_
    change V E X 0 0 n (va_up M (m + 1) (ia E 622 (crossS s p c f))) _ _ _
    refine V.al0 g0 d_X7_crosses_104 ?_
    refine V.il1 g0 d_X7_crosses_105 ?_
    refine V.bipush g0 d_X7_crosses_106 (by decide) ?_
    refine V.callVp g0 (c_X7_get (MS.up hs (crossS s p c f)) (by omega)) ky_X7_get ki_X7_get ks2_X7_get lk_X7_50 (by first | assumption | exact hmu _ | exact hau _) rfl rfl (Nat.le_of_ble_eq_true rfl) ⟨Nat.zero_le _, Nat.zero_le _⟩ rfl rfl (Nat.le_of_ble_eq_true rfl) d_X7_crosses_108 ?_
    refine V.iret g d_X7_crosses_111 (Nat.zero_le _) (Nat.zero_le _) ⟨congrArg (fun z => some (Value.int (iI z))) ?_, rfl, rfl⟩
    rfl
  refine V.il3 g0 d_X7_crosses_0 ?_
  refine V.iconst g0 d_X7_crosses_1 ?_
  refine V.irem g0 d_X7_crosses_2 (by omega) (by decide) ?_
  refine V.ifne g0 d_X7_crosses_3 (by omega) (fun c_3 => ?_) (fun c_3 => ?_)
  · skip
    refine V.il3 g0 d_X7_crosses_18 ?_
    refine V.iconst g0 d_X7_crosses_19 ?_
    refine V.icmpge g0 d_X7_crosses_20 (by omega) (fun c_20 => ?_) (fun c_20 => ?_)
    · skip
      have e : crossB s p c f = s := by unfold crossB crossA; rw [if_neg c_20, if_neg c_3]
      rw [e, up_same ha] at TL
      exact TL
    · skip
      refine V.al0 g0 d_X7_crosses_23 ?_
      refine V.il1 g0 d_X7_crosses_24 ?_
      refine V.il2 g0 d_X7_crosses_25 ?_
      refine V.iconst g0 d_X7_crosses_26 ?_
      refine V.callVf g0 (c_X7_stamps hs hk hp (by omega)) ky_X7_stamps ki_X7_stamps ks2_X7_stamps lk_X7_107 (by first | assumption | exact hmu _ | exact hau _) rfl rfl (Nat.le_of_ble_eq_true rfl) ⟨Nat.zero_le _, Nat.zero_le _⟩ rfl rfl (Nat.le_of_ble_eq_true rfl) d_X7_crosses_27 ?_
      try refine V.eqM up_up ?_
      have e : crossB s p c f = stampS s p c 1 := by unfold crossB crossA; rw [if_pos c_20, if_neg c_3]
      rw [e] at TL
      exact TL
  · skip
    refine V.al0 g0 d_X7_crosses_6 ?_
    refine V.il1 g0 d_X7_crosses_7 ?_
    refine V.al0 g0 d_X7_crosses_8 ?_
    refine V.il1 g0 d_X7_crosses_9 ?_
    refine V.iconst g0 d_X7_crosses_10 ?_
    refine V.callVp g0 (c_X7_get hs (by omega)) ky_X7_get ki_X7_get ks2_X7_get lk_X7_50 (by first | assumption | exact hmu _ | exact hau _) rfl rfl (Nat.le_of_ble_eq_true rfl) ⟨Nat.zero_le _, Nat.zero_le _⟩ rfl rfl (Nat.le_of_ble_eq_true rfl) d_X7_crosses_11 ?_
    refine V.iconst g0 d_X7_crosses_14 ?_
    refine V.callVf g0 (c_X7_stamps hs hk hp (by omega)) ky_X7_stamps ki_X7_stamps ks2_X7_stamps lk_X7_107 (by first | assumption | exact hmu _ | exact hau _) rfl rfl (Nat.le_of_ble_eq_true rfl) ⟨Nat.zero_le _, Nat.zero_le _⟩ rfl rfl (Nat.le_of_ble_eq_true rfl) d_X7_crosses_15 ?_
    refine V.il3 g0 d_X7_crosses_18 ?_
    refine V.iconst g0 d_X7_crosses_19 ?_
    refine V.icmpge g0 d_X7_crosses_20 (by omega) (fun c_20 => ?_) (fun c_20 => ?_)
    · skip
      have e : crossB s p c f = stampS s p (s (103 * p + 2)) 0 := by unfold crossB crossA; rw [if_neg c_20, if_pos c_3]
      rw [e] at TL
      exact TL
    · skip
      refine V.al0 g0 d_X7_crosses_23 ?_
      refine V.il1 g0 d_X7_crosses_24 ?_
      refine V.il2 g0 d_X7_crosses_25 ?_
      refine V.iconst g0 d_X7_crosses_26 ?_
      refine V.callVf g0 (c_X7_stamps (MS.up hs (stampS s p (s (103 * p + 2)) 0)) (hk.stamp hp (by omega) hw (by decide)) hp (by rw [stampS_8 hst.1]; omega)) ky_X7_stamps ki_X7_stamps ks2_X7_stamps lk_X7_107 (by first | assumption | exact hmu _ | exact hau _) rfl rfl (Nat.le_of_ble_eq_true rfl) ⟨Nat.zero_le _, Nat.zero_le _⟩ rfl rfl (Nat.le_of_ble_eq_true rfl) d_X7_crosses_27 ?_
      try refine V.eqM up_up ?_
      have e : crossB s p c f = stampS (stampS s p (s (103 * p + 2)) 0) p c 1 := by unfold crossB crossA; rw [if_pos c_20, if_pos c_3]
      rw [e] at TL
      exact TL

theorem d_X7_isOverstay_0 : Dc cX7_isOverstay 0 1 1 (.aload_n 0) := ⟨by decide +kernel, rfl⟩
theorem d_X7_isOverstay_1 : Dc cX7_isOverstay 1 1 2 (.iload_n 1) := ⟨by decide +kernel, rfl⟩
theorem d_X7_isOverstay_2 : Dc cX7_isOverstay 2 1 3 (.iconst 2) := ⟨by decide +kernel, rfl⟩
theorem d_X7_isOverstay_3 : Dc cX7_isOverstay 3 3 6 (.invokevirtual 50) := ⟨by decide +kernel, rfl⟩
theorem d_X7_isOverstay_6 : Dc cX7_isOverstay 6 1 7 (.istore_n 2) := ⟨by decide +kernel, rfl⟩
theorem d_X7_isOverstay_7 : Dc cX7_isOverstay 7 1 8 (.aload_n 0) := ⟨by decide +kernel, rfl⟩
theorem d_X7_isOverstay_8 : Dc cX7_isOverstay 8 1 9 (.iload_n 1) := ⟨by decide +kernel, rfl⟩
theorem d_X7_isOverstay_9 : Dc cX7_isOverstay 9 1 10 (.iload_n 2) := ⟨by decide +kernel, rfl⟩
theorem d_X7_isOverstay_10 : Dc cX7_isOverstay 10 1 11 (.aload_n 0) := ⟨by decide +kernel, rfl⟩
theorem d_X7_isOverstay_11 : Dc cX7_isOverstay 11 3 14 (.getfield 7) := ⟨by decide +kernel, rfl⟩
theorem d_X7_isOverstay_14 : Dc cX7_isOverstay 14 3 17 (.sipush 618) := ⟨by decide +kernel, rfl⟩
theorem d_X7_isOverstay_17 : Dc cX7_isOverstay 17 1 18 .iaload := ⟨by decide +kernel, rfl⟩
theorem d_X7_isOverstay_18 : Dc cX7_isOverstay 18 3 21 (.invokevirtual 86) := ⟨by decide +kernel, rfl⟩
theorem d_X7_isOverstay_21 : Dj cX7_isOverstay 21 24 52 (.ifCond .eq) := ⟨31, by decide +kernel, rfl, by decide⟩
theorem d_X7_isOverstay_24 : Dc cX7_isOverstay 24 1 25 (.aload_n 0) := ⟨by decide +kernel, rfl⟩
theorem d_X7_isOverstay_25 : Dc cX7_isOverstay 25 1 26 (.iload_n 1) := ⟨by decide +kernel, rfl⟩
theorem d_X7_isOverstay_26 : Dc cX7_isOverstay 26 1 27 (.iload_n 2) := ⟨by decide +kernel, rfl⟩
theorem d_X7_isOverstay_27 : Dc cX7_isOverstay 27 1 28 (.aload_n 0) := ⟨by decide +kernel, rfl⟩
theorem d_X7_isOverstay_28 : Dc cX7_isOverstay 28 3 31 (.getfield 7) := ⟨by decide +kernel, rfl⟩
theorem d_X7_isOverstay_31 : Dc cX7_isOverstay 31 3 34 (.sipush 618) := ⟨by decide +kernel, rfl⟩
theorem d_X7_isOverstay_34 : Dc cX7_isOverstay 34 1 35 .iaload := ⟨by decide +kernel, rfl⟩
theorem d_X7_isOverstay_35 : Dc cX7_isOverstay 35 3 38 (.invokevirtual 83) := ⟨by decide +kernel, rfl⟩
theorem d_X7_isOverstay_38 : Dc cX7_isOverstay 38 1 39 (.aload_n 0) := ⟨by decide +kernel, rfl⟩
theorem d_X7_isOverstay_39 : Dc cX7_isOverstay 39 1 40 (.iload_n 1) := ⟨by decide +kernel, rfl⟩
theorem d_X7_isOverstay_40 : Dc cX7_isOverstay 40 1 41 (.iload_n 2) := ⟨by decide +kernel, rfl⟩
theorem d_X7_isOverstay_41 : Dc cX7_isOverstay 41 1 42 (.iconst 2) := ⟨by decide +kernel, rfl⟩
theorem d_X7_isOverstay_42 : Dc cX7_isOverstay 42 3 45 (.invokevirtual 69) := ⟨by decide +kernel, rfl⟩
theorem d_X7_isOverstay_45 : Dj cX7_isOverstay 45 48 52 (.if_icmp .ge) := ⟨7, by decide +kernel, rfl, by decide⟩
theorem d_X7_isOverstay_48 : Dc cX7_isOverstay 48 1 49 (.iconst 1) := ⟨by decide +kernel, rfl⟩
theorem d_X7_isOverstay_49 : Dj cX7_isOverstay 49 52 53 .goto := ⟨4, by decide +kernel, rfl, by decide⟩
theorem d_X7_isOverstay_52 : Dc cX7_isOverstay 52 1 53 (.iconst 0) := ⟨by decide +kernel, rfl⟩
theorem d_X7_isOverstay_53 : Dc cX7_isOverstay 53 1 54 (.istore_n 3) := ⟨by decide +kernel, rfl⟩
theorem d_X7_isOverstay_54 : Dc cX7_isOverstay 54 1 55 (.iload_n 2) := ⟨by decide +kernel, rfl⟩
theorem d_X7_isOverstay_55 : Dc cX7_isOverstay 55 1 56 (.aload_n 0) := ⟨by decide +kernel, rfl⟩
theorem d_X7_isOverstay_56 : Dc cX7_isOverstay 56 1 57 (.iload_n 1) := ⟨by decide +kernel, rfl⟩
theorem d_X7_isOverstay_57 : Dc cX7_isOverstay 57 1 58 (.iconst 0) := ⟨by decide +kernel, rfl⟩
theorem d_X7_isOverstay_58 : Dc cX7_isOverstay 58 3 61 (.invokevirtual 50) := ⟨by decide +kernel, rfl⟩
theorem d_X7_isOverstay_61 : Dj cX7_isOverstay 61 64 72 (.if_icmp .eq) := ⟨11, by decide +kernel, rfl, by decide⟩
theorem d_X7_isOverstay_64 : Dc cX7_isOverstay 64 1 65 (.iload_n 3) := ⟨by decide +kernel, rfl⟩
theorem d_X7_isOverstay_65 : Dj cX7_isOverstay 65 68 72 (.ifCond .ne) := ⟨7, by decide +kernel, rfl, by decide⟩
theorem d_X7_isOverstay_68 : Dc cX7_isOverstay 68 1 69 (.iconst 1) := ⟨by decide +kernel, rfl⟩
theorem d_X7_isOverstay_69 : Dj cX7_isOverstay 69 72 73 .goto := ⟨4, by decide +kernel, rfl, by decide⟩
theorem d_X7_isOverstay_72 : Dc cX7_isOverstay 72 1 73 (.iconst 0) := ⟨by decide +kernel, rfl⟩
theorem d_X7_isOverstay_73 : decode cX7_isOverstay 73 = .ok (.ireturn, 1) := by decide +kernel
set_option maxHeartbeats 4000000 in
set_option maxRecDepth 20000 in
theorem c_X7_isOverstay {E : Ev} {n : Nat} {M : Mem} {m : Nat} {s : Int → Int} (hs : MS E M m s) {p : Int} (hk : OkP s p) (hp : 0 ≤ p ∧ p < 6) : MT E yX7_isOverstay cX7_isOverstay 4 (some .boolean) 7 0 0 [.ref m, .int (iI p)] n M (PF (some (.int (iI (bI (isOver s p))))) n M) := by
  refine MT.of (by decide) rfl (Nat.le_of_ble_eq_true rfl) ?_
  intro X g
  have g0 := g.1
  show V E X 0 0 n M 0 [some (.ref m), some (.int (iI p)), none, none] []
  obtain ⟨⟨fr, hm⟩, ha⟩ := id hs
  have hw := hk.whr
  have hh := hk.home
  have hb := hk.bgo
  have hv := hk.vis hw.1 (by omega)
  have hu := usedOn_b2 hk hw.1 (by omega) (s 618)
  refine V.al0 g0 d_X7_isOverstay_0 ?_
  refine V.il1 g0 d_X7_isOverstay_1 ?_
  refine V.iconst g0 d_X7_isOverstay_2 ?_
  refine V.callVp g0 (c_X7_get hs (by omega)) ky_X7_get ki_X7_get ks2_X7_get lk_X7_50 (by assumption) rfl rfl (Nat.le_of_ble_eq_true rfl) ⟨Nat.zero_le _, Nat.zero_le _⟩ rfl rfl (Nat.le_of_ble_eq_true rfl) d_X7_isOverstay_3 ?_
  refine V.is2 g0 d_X7_isOverstay_6 ?_
  refine V.al0 g0 d_X7_isOverstay_7 ?_
  refine V.il1 g0 d_X7_isOverstay_8 ?_
  refine V.il2 g0 d_X7_isOverstay_9 ?_
  refine V.al0 g0 d_X7_isOverstay_10 ?_
  refine V.getf g0 d_X7_isOverstay_11 fl_X7_7 (by assumption) (by rfl) ?_
  refine V.sipush g0 d_X7_isOverstay_14 (by decide) ?_
  refine V.iald g0 d_X7_isOverstay_17 (by assumption) (by omega) (by decide) ?_
  refine V.callVp g0 (c_X7_isValidOn hs hk hp (by omega) (by omega)) ky_X7_isValidOn ki_X7_isValidOn ks2_X7_isValidOn lk_X7_86 (by assumption) rfl rfl (Nat.le_of_ble_eq_true rfl) ⟨Nat.zero_le _, Nat.zero_le _⟩ rfl rfl (Nat.le_of_ble_eq_true rfl) d_X7_isOverstay_18 ?_
  refine V.ifeqB g0 d_X7_isOverstay_21 (fun c_21 => ?_) (fun c_21 => ?_)
  · skip
    have hno : ¬ (validOn s p (s (103 * p + 2)) (s 618) ∧ usedOn s p (s (103 * p + 2)) (s 618) < vOf s p (s (103 * p + 2)) 2) := fun h => c_21 h.1
    refine V.iconst g0 d_X7_isOverstay_52 ?_
    refine V.is3 g0 d_X7_isOverstay_53 ?_
    refine V.il2 g0 d_X7_isOverstay_54 ?_
    refine V.al0 g0 d_X7_isOverstay_55 ?_
    refine V.il1 g0 d_X7_isOverstay_56 ?_
    refine V.iconst g0 d_X7_isOverstay_57 ?_
    refine V.callVp g0 (c_X7_get hs (by omega)) ky_X7_get ki_X7_get ks2_X7_get lk_X7_50 (by assumption) rfl rfl (Nat.le_of_ble_eq_true rfl) ⟨Nat.zero_le _, Nat.zero_le _⟩ rfl rfl (Nat.le_of_ble_eq_true rfl) d_X7_isOverstay_58 ?_
    refine V.icmpeq g0 d_X7_isOverstay_61 (by omega) (fun c_61 => ?_) (fun c_61 => ?_)
    · skip
      have hz : ¬ isOver s p := fun h => h.1 c_61
      refine V.iconst g0 d_X7_isOverstay_72 ?_
      refine V.zret g d_X7_isOverstay_73 (by first | exact Or.inl rfl | exact Or.inr rfl | exact bI_01 _) (Nat.zero_le _) (Nat.zero_le _) ⟨congrArg (fun z => some (Value.int (iI z))) ?_, rfl, rfl⟩
      exact (bI_f hz).symm
    · skip
      refine V.il3 g0 d_X7_isOverstay_64 ?_
      refine V.ifne g0 d_X7_isOverstay_65 (by decide) (fun c_65 => ?_) (fun c_65 => ?_)
      · skip
        try have hz : ¬ isOver s p := fun h => h.2 hyes
        exact absurd c_65 (by decide)
      · skip
        refine V.iconst g0 d_X7_isOverstay_68 ?_
        refine V.goto g0 d_X7_isOverstay_69 ?_
        refine V.zret g d_X7_isOverstay_73 (by first | exact Or.inl rfl | exact Or.inr rfl | exact bI_01 _) (Nat.zero_le _) (Nat.zero_le _) ⟨congrArg (fun z => some (Value.int (iI z))) ?_, rfl, rfl⟩
        exact (bI_t ⟨c_61, hno⟩).symm
  · skip
    refine V.al0 g0 d_X7_isOverstay_24 ?_
    refine V.il1 g0 d_X7_isOverstay_25 ?_
    refine V.il2 g0 d_X7_isOverstay_26 ?_
    refine V.al0 g0 d_X7_isOverstay_27 ?_
    refine V.getf g0 d_X7_isOverstay_28 fl_X7_7 (by assumption) (by rfl) ?_
    refine V.sipush g0 d_X7_isOverstay_31 (by decide) ?_
    refine V.iald g0 d_X7_isOverstay_34 (by assumption) (by omega) (by decide) ?_
    refine V.callVp g0 (c_X7_usedAheadOf hs hk hp (by omega) (by omega)) ky_X7_usedAheadOf ki_X7_usedAheadOf ks2_X7_usedAheadOf lk_X7_83 (by assumption) rfl rfl (Nat.le_of_ble_eq_true rfl) ⟨Nat.zero_le _, Nat.zero_le _⟩ rfl rfl (Nat.le_of_ble_eq_true rfl) d_X7_isOverstay_35 ?_
    refine V.al0 g0 d_X7_isOverstay_38 ?_
    refine V.il1 g0 d_X7_isOverstay_39 ?_
    refine V.il2 g0 d_X7_isOverstay_40 ?_
    refine V.iconst g0 d_X7_isOverstay_41 ?_
    refine V.callVp g0 (c_X7_ofVisa hs hp (by omega) (by decide)) ky_X7_ofVisa ki_X7_ofVisa ks2_X7_ofVisa lk_X7_69 (by assumption) rfl rfl (Nat.le_of_ble_eq_true rfl) ⟨Nat.zero_le _, Nat.zero_le _⟩ rfl rfl (Nat.le_of_ble_eq_true rfl) d_X7_isOverstay_42 ?_
    refine V.icmpge g0 d_X7_isOverstay_45 (by omega) (fun c_45 => ?_) (fun c_45 => ?_)
    · skip
      have hno : ¬ (validOn s p (s (103 * p + 2)) (s 618) ∧ usedOn s p (s (103 * p + 2)) (s 618) < vOf s p (s (103 * p + 2)) 2) := fun h => c_45 h.2
      refine V.iconst g0 d_X7_isOverstay_52 ?_
      refine V.is3 g0 d_X7_isOverstay_53 ?_
      refine V.il2 g0 d_X7_isOverstay_54 ?_
      refine V.al0 g0 d_X7_isOverstay_55 ?_
      refine V.il1 g0 d_X7_isOverstay_56 ?_
      refine V.iconst g0 d_X7_isOverstay_57 ?_
      refine V.callVp g0 (c_X7_get hs (by omega)) ky_X7_get ki_X7_get ks2_X7_get lk_X7_50 (by assumption) rfl rfl (Nat.le_of_ble_eq_true rfl) ⟨Nat.zero_le _, Nat.zero_le _⟩ rfl rfl (Nat.le_of_ble_eq_true rfl) d_X7_isOverstay_58 ?_
      refine V.icmpeq g0 d_X7_isOverstay_61 (by omega) (fun c_61 => ?_) (fun c_61 => ?_)
      · skip
        have hz : ¬ isOver s p := fun h => h.1 c_61
        refine V.iconst g0 d_X7_isOverstay_72 ?_
        refine V.zret g d_X7_isOverstay_73 (by first | exact Or.inl rfl | exact Or.inr rfl | exact bI_01 _) (Nat.zero_le _) (Nat.zero_le _) ⟨congrArg (fun z => some (Value.int (iI z))) ?_, rfl, rfl⟩
        exact (bI_f hz).symm
      · skip
        refine V.il3 g0 d_X7_isOverstay_64 ?_
        refine V.ifne g0 d_X7_isOverstay_65 (by decide) (fun c_65 => ?_) (fun c_65 => ?_)
        · skip
          try have hz : ¬ isOver s p := fun h => h.2 hyes
          exact absurd c_65 (by decide)
        · skip
          refine V.iconst g0 d_X7_isOverstay_68 ?_
          refine V.goto g0 d_X7_isOverstay_69 ?_
          refine V.zret g d_X7_isOverstay_73 (by first | exact Or.inl rfl | exact Or.inr rfl | exact bI_01 _) (Nat.zero_le _) (Nat.zero_le _) ⟨congrArg (fun z => some (Value.int (iI z))) ?_, rfl, rfl⟩
          exact (bI_t ⟨c_61, hno⟩).symm
    · skip
      have hyes := And.intro c_21 c_45
      refine V.iconst g0 d_X7_isOverstay_48 ?_
      refine V.goto g0 d_X7_isOverstay_49 ?_
      refine V.is3 g0 d_X7_isOverstay_53 ?_
      refine V.il2 g0 d_X7_isOverstay_54 ?_
      refine V.al0 g0 d_X7_isOverstay_55 ?_
      refine V.il1 g0 d_X7_isOverstay_56 ?_
      refine V.iconst g0 d_X7_isOverstay_57 ?_
      refine V.callVp g0 (c_X7_get hs (by omega)) ky_X7_get ki_X7_get ks2_X7_get lk_X7_50 (by assumption) rfl rfl (Nat.le_of_ble_eq_true rfl) ⟨Nat.zero_le _, Nat.zero_le _⟩ rfl rfl (Nat.le_of_ble_eq_true rfl) d_X7_isOverstay_58 ?_
      refine V.icmpeq g0 d_X7_isOverstay_61 (by omega) (fun c_61 => ?_) (fun c_61 => ?_)
      · skip
        have hz : ¬ isOver s p := fun h => h.1 c_61
        refine V.iconst g0 d_X7_isOverstay_72 ?_
        refine V.zret g d_X7_isOverstay_73 (by first | exact Or.inl rfl | exact Or.inr rfl | exact bI_01 _) (Nat.zero_le _) (Nat.zero_le _) ⟨congrArg (fun z => some (Value.int (iI z))) ?_, rfl, rfl⟩
        exact (bI_f hz).symm
      · skip
        refine V.il3 g0 d_X7_isOverstay_64 ?_
        refine V.ifne g0 d_X7_isOverstay_65 (by decide) (fun c_65 => ?_) (fun c_65 => ?_)
        · skip
          try have hz : ¬ isOver s p := fun h => h.2 hyes
          refine V.iconst g0 d_X7_isOverstay_72 ?_
          refine V.zret g d_X7_isOverstay_73 (by first | exact Or.inl rfl | exact Or.inr rfl | exact bI_01 _) (Nat.zero_le _) (Nat.zero_le _) ⟨congrArg (fun z => some (Value.int (iI z))) ?_, rfl, rfl⟩
          exact (bI_f hz).symm
        · skip
          exact absurd c_65 (by decide)

theorem d_X7_errorOfPass_0 : Dc cX7_errorOfPass 0 1 1 (.iload_n 1) := ⟨by decide +kernel, rfl⟩
theorem d_X7_errorOfPass_1 : Dc cX7_errorOfPass 1 1 2 (.iconst 1) := ⟨by decide +kernel, rfl⟩
theorem d_X7_errorOfPass_2 : Dc cX7_errorOfPass 2 2 4 (.bipush 99) := ⟨by decide +kernel, rfl⟩
theorem d_X7_errorOfPass_4 : Dc cX7_errorOfPass 4 3 7 (.invokestatic 32) := ⟨by decide +kernel, rfl⟩
theorem d_X7_errorOfPass_7 : Dj cX7_errorOfPass 7 10 15 (.ifCond .ne) := ⟨8, by decide +kernel, rfl, by decide⟩
theorem d_X7_errorOfPass_10 : Dc cX7_errorOfPass 10 2 12 (.bipush (-2)) := ⟨by decide +kernel, rfl⟩
theorem d_X7_errorOfPass_12 : Dj cX7_errorOfPass 12 15 37 .goto := ⟨25, by decide +kernel, rfl, by decide⟩
theorem d_X7_errorOfPass_15 : Dc cX7_errorOfPass 15 1 16 (.aload_n 0) := ⟨by decide +kernel, rfl⟩
theorem d_X7_errorOfPass_16 : Dc cX7_errorOfPass 16 3 19 (.getfield 7) := ⟨by decide +kernel, rfl⟩
theorem d_X7_errorOfPass_19 : Dc cX7_errorOfPass 19 3 22 (.sipush 618) := ⟨by decide +kernel, rfl⟩
theorem d_X7_errorOfPass_22 : Dc cX7_errorOfPass 22 1 23 .iaload := ⟨by decide +kernel, rfl⟩
theorem d_X7_errorOfPass_23 : Dc cX7_errorOfPass 23 1 24 (.iload_n 1) := ⟨by decide +kernel, rfl⟩
theorem d_X7_errorOfPass_24 : Dc cX7_errorOfPass 24 1 25 .iadd := ⟨by decide +kernel, rfl⟩
theorem d_X7_errorOfPass_25 : Dc cX7_errorOfPass 25 3 28 (.sipush 999) := ⟨by decide +kernel, rfl⟩
theorem d_X7_errorOfPass_28 : Dj cX7_errorOfPass 28 31 36 (.if_icmp .le) := ⟨8, by decide +kernel, rfl, by decide⟩
theorem d_X7_errorOfPass_31 : Dc cX7_errorOfPass 31 2 33 (.bipush (-3)) := ⟨by decide +kernel, rfl⟩
theorem d_X7_errorOfPass_33 : Dj cX7_errorOfPass 33 36 37 .goto := ⟨4, by decide +kernel, rfl, by decide⟩
theorem d_X7_errorOfPass_36 : Dc cX7_errorOfPass 36 1 37 (.iconst 0) := ⟨by decide +kernel, rfl⟩
theorem d_X7_errorOfPass_37 : decode cX7_errorOfPass 37 = .ok (.ireturn, 1) := by decide +kernel
set_option maxHeartbeats 4000000 in
set_option maxRecDepth 20000 in
theorem c_X7_errorOfPass {E : Ev} {n : Nat} {M : Mem} {m : Nat} {s : Int → Int} (hs : MS E M m s) {d : Int} (hO : Ok s) (h1 : rg d) : MT E yX7_errorOfPass cX7_errorOfPass 2 (some .int) 1 0 0 [.ref m, .int (iI d)] n M (PF (some (.int (iI (errPass s d)))) n M) := by
  refine MT.of (by decide) rfl (Nat.le_of_ble_eq_true rfl) ?_
  intro X g
  have g0 := g.1
  show V E X 0 0 n M 0 [some (.ref m), some (.int (iI d))] []
  obtain ⟨⟨fr, hm⟩, ha⟩ := id hs
  have hd := hO.day
  refine V.il1 g0 d_X7_errorOfPass_0 ?_
  refine V.iconst g0 d_X7_errorOfPass_1 ?_
  refine V.bipush g0 d_X7_errorOfPass_2 (by decide) ?_
  refine V.callSp g0 (c_X7_in h1 (by decide) (by decide)) ky_X7_in ks_X7_in lk_X7_32 (Nat.le_of_ble_eq_true rfl) ⟨Nat.zero_le _, Nat.zero_le _⟩ rfl rfl (Nat.le_of_ble_eq_true rfl) d_X7_errorOfPass_4 ?_
  refine V.ifneB g0 d_X7_errorOfPass_7 (fun c_7 => ?_) (fun c_7 => ?_)
  · skip
    refine V.al0 g0 d_X7_errorOfPass_15 ?_
    refine V.getf g0 d_X7_errorOfPass_16 fl_X7_7 (by assumption) (by rfl) ?_
    refine V.sipush g0 d_X7_errorOfPass_19 (by decide) ?_
    refine V.iald g0 d_X7_errorOfPass_22 (by assumption) (by omega) (by decide) ?_
    refine V.il1 g0 d_X7_errorOfPass_23 ?_
    refine V.iadd g0 d_X7_errorOfPass_24 ?_
    refine V.sipush g0 d_X7_errorOfPass_25 (by decide) ?_
    refine V.icmple g0 d_X7_errorOfPass_28 (by omega) (fun c_28 => ?_) (fun c_28 => ?_)
    · skip
      refine V.iconst g0 d_X7_errorOfPass_36 ?_
      refine V.iret g d_X7_errorOfPass_37 (Nat.zero_le _) (Nat.zero_le _) ⟨congrArg (fun z => some (Value.int (iI z))) ?_, rfl, rfl⟩
      rw [errPass, if_neg (fun h => h c_7), if_neg (by omega)]
    · skip
      refine V.bipush g0 d_X7_errorOfPass_31 (by decide) ?_
      refine V.goto g0 d_X7_errorOfPass_33 ?_
      refine V.iret g d_X7_errorOfPass_37 (Nat.zero_le _) (Nat.zero_le _) ⟨congrArg (fun z => some (Value.int (iI z))) ?_, rfl, rfl⟩
      rw [errPass, if_neg (fun h => h c_7), if_pos (by omega)]
  · skip
    refine V.bipush g0 d_X7_errorOfPass_10 (by decide) ?_
    refine V.goto g0 d_X7_errorOfPass_12 ?_
    refine V.iret g d_X7_errorOfPass_37 (Nat.zero_le _) (Nat.zero_le _) ⟨congrArg (fun z => some (Value.int (iI z))) ?_, rfl, rfl⟩
    rw [errPass, if_pos c_7]

theorem d_X7_passes_0 : Dc cX7_passes 0 1 1 (.iconst 0) := ⟨by decide +kernel, rfl⟩
theorem d_X7_passes_1 : Dc cX7_passes 1 1 2 (.istore_n 2) := ⟨by decide +kernel, rfl⟩
theorem d_X7_passes_2 : Dc cX7_passes 2 1 3 (.iconst 0) := ⟨by decide +kernel, rfl⟩
theorem d_X7_passes_3 : Dc cX7_passes 3 1 4 (.istore_n 3) := ⟨by decide +kernel, rfl⟩
theorem d_X7_passes_4 : Dc cX7_passes 4 1 5 (.iload_n 3) := ⟨by decide +kernel, rfl⟩
theorem d_X7_passes_5 : Dc cX7_passes 5 1 6 (.iload_n 1) := ⟨by decide +kernel, rfl⟩
theorem d_X7_passes_6 : Dj cX7_passes 6 9 86 (.if_icmp .ge) := ⟨80, by decide +kernel, rfl, by decide⟩
theorem d_X7_passes_9 : Dc cX7_passes 9 1 10 (.iconst 0) := ⟨by decide +kernel, rfl⟩
theorem d_X7_passes_10 : Dc cX7_passes 10 2 12 (.istore 4) := ⟨by decide +kernel, rfl⟩
theorem d_X7_passes_12 : Dc cX7_passes 12 2 14 (.iload 4) := ⟨by decide +kernel, rfl⟩
theorem d_X7_passes_14 : Dc cX7_passes 14 1 15 (.aload_n 0) := ⟨by decide +kernel, rfl⟩
theorem d_X7_passes_15 : Dc cX7_passes 15 3 18 (.getfield 7) := ⟨by decide +kernel, rfl⟩
theorem d_X7_passes_18 : Dc cX7_passes 18 3 21 (.sipush 619) := ⟨by decide +kernel, rfl⟩
theorem d_X7_passes_21 : Dc cX7_passes 21 1 22 .iaload := ⟨by decide +kernel, rfl⟩
theorem d_X7_passes_22 : Dj cX7_passes 22 25 68 (.if_icmp .ge) := ⟨46, by decide +kernel, rfl, by decide⟩
theorem d_X7_passes_25 : Dc cX7_passes 25 1 26 (.aload_n 0) := ⟨by decide +kernel, rfl⟩
theorem d_X7_passes_26 : Dc cX7_passes 26 2 28 (.iload 4) := ⟨by decide +kernel, rfl⟩
theorem d_X7_passes_28 : Dc cX7_passes 28 3 31 (.invokevirtual 111) := ⟨by decide +kernel, rfl⟩
theorem d_X7_passes_31 : Dj cX7_passes 31 34 38 (.ifCond .eq) := ⟨7, by decide +kernel, rfl, by decide⟩
theorem d_X7_passes_34 : Dc cX7_passes 34 1 35 (.iconst 1) := ⟨by decide +kernel, rfl⟩
theorem d_X7_passes_35 : Dj cX7_passes 35 38 39 .goto := ⟨4, by decide +kernel, rfl, by decide⟩
theorem d_X7_passes_38 : Dc cX7_passes 38 1 39 (.iconst 0) := ⟨by decide +kernel, rfl⟩
theorem d_X7_passes_39 : Dc cX7_passes 39 2 41 (.istore 5) := ⟨by decide +kernel, rfl⟩
theorem d_X7_passes_41 : Dc cX7_passes 41 1 42 (.aload_n 0) := ⟨by decide +kernel, rfl⟩
theorem d_X7_passes_42 : Dc cX7_passes 42 3 45 (.getfield 7) := ⟨by decide +kernel, rfl⟩
theorem d_X7_passes_45 : Dc cX7_passes 45 2 47 (.iload 4) := ⟨by decide +kernel, rfl⟩
theorem d_X7_passes_47 : Dc cX7_passes 47 1 48 (.iconst 4) := ⟨by decide +kernel, rfl⟩
theorem d_X7_passes_48 : Dc cX7_passes 48 3 51 (.invokestatic 43) := ⟨by decide +kernel, rfl⟩
theorem d_X7_passes_51 : Dc cX7_passes 51 1 52 .dup2 := ⟨by decide +kernel, rfl⟩
theorem d_X7_passes_52 : Dc cX7_passes 52 1 53 .iaload := ⟨by decide +kernel, rfl⟩
theorem d_X7_passes_53 : Dc cX7_passes 53 2 55 (.iload 5) := ⟨by decide +kernel, rfl⟩
theorem d_X7_passes_55 : Dc cX7_passes 55 1 56 .iadd := ⟨by decide +kernel, rfl⟩
theorem d_X7_passes_56 : Dc cX7_passes 56 1 57 .iastore := ⟨by decide +kernel, rfl⟩
theorem d_X7_passes_57 : Dc cX7_passes 57 1 58 (.iload_n 2) := ⟨by decide +kernel, rfl⟩
theorem d_X7_passes_58 : Dc cX7_passes 58 2 60 (.iload 5) := ⟨by decide +kernel, rfl⟩
theorem d_X7_passes_60 : Dc cX7_passes 60 1 61 .iadd := ⟨by decide +kernel, rfl⟩
theorem d_X7_passes_61 : Dc cX7_passes 61 1 62 (.istore_n 2) := ⟨by decide +kernel, rfl⟩
theorem d_X7_passes_62 : Dc cX7_passes 62 3 65 (.iinc 4 1) := ⟨by decide +kernel, rfl⟩
theorem d_X7_passes_65 : Dj cX7_passes 65 68 12 .goto := ⟨(-53), by decide +kernel, rfl, by decide⟩
theorem d_X7_passes_68 : Dc cX7_passes 68 1 69 (.aload_n 0) := ⟨by decide +kernel, rfl⟩
theorem d_X7_passes_69 : Dc cX7_passes 69 3 72 (.getfield 7) := ⟨by decide +kernel, rfl⟩
theorem d_X7_passes_72 : Dc cX7_passes 72 3 75 (.sipush 618) := ⟨by decide +kernel, rfl⟩
theorem d_X7_passes_75 : Dc cX7_passes 75 1 76 .dup2 := ⟨by decide +kernel, rfl⟩
theorem d_X7_passes_76 : Dc cX7_passes 76 1 77 .iaload := ⟨by decide +kernel, rfl⟩
theorem d_X7_passes_77 : Dc cX7_passes 77 1 78 (.iconst 1) := ⟨by decide +kernel, rfl⟩
theorem d_X7_passes_78 : Dc cX7_passes 78 1 79 .iadd := ⟨by decide +kernel, rfl⟩
theorem d_X7_passes_79 : Dc cX7_passes 79 1 80 .iastore := ⟨by decide +kernel, rfl⟩
theorem d_X7_passes_80 : Dc cX7_passes 80 3 83 (.iinc 3 1) := ⟨by decide +kernel, rfl⟩
theorem d_X7_passes_83 : Dj cX7_passes 83 86 4 .goto := ⟨(-79), by decide +kernel, rfl, by decide⟩
theorem d_X7_passes_86 : Dc cX7_passes 86 1 87 (.iload_n 2) := ⟨by decide +kernel, rfl⟩
theorem d_X7_passes_87 : decode cX7_passes 87 = .ok (.ireturn, 1) := by decide +kernel
set_option maxHeartbeats 4000000 in
set_option maxRecDepth 20000 in
theorem c_X7_passes {E : Ev} {n : Nat} {M : Mem} {m : Nat} {s : Int → Int} (hs : MS E M m s) {d : Int} (hO : Ok s) (h1 : 1 ≤ d ∧ d ≤ 99) (h2 : s 618 + d ≤ 999) : MT E yX7_passes cX7_passes 6 (some .int) 8 0 0 [.ref m, .int (iI d)] n M (PF (some (.int (iI (daysN s d.toNat)))) n (va_up M (m + 1) (ia E 622 (daysS s d.toNat)))) := by
  refine MT.of (by decide) rfl (Nat.le_of_ble_eq_true rfl) ?_
  intro X g
  have g0 := g.1
  show V E X 0 0 n M 0 [some (.ref m), some (.int (iI d)), none, none, none, none] []
  obtain ⟨⟨fr, hm⟩, ha⟩ := id hs
  have hmu : ∀ e, va_up M (m + 1) e m = .inr (7, .ref (m + 1) :: fr) := fun e => by rw [va_up_ne _ _ (by omega)]; exact hm
  have hau : ∀ e, va_up M (m + 1) e (m + 1) = e := fun e => va_up_self _ _ _
  refine V.iconst g0 d_X7_passes_0 ?_
  refine V.is2 g0 d_X7_passes_1 ?_
  refine V.iconst g0 d_X7_passes_2 ?_
  refine V.is3 g0 d_X7_passes_3 ?_
  have LP : ∀ (f k : Nat) (N : Int), k + f = d.toNat → N = daysN s k → V E X 0 0 n (va_up M (m + 1) (ia E 622 (daysS s k))) 4 [some (.ref m), some (.int (iI d)), some (.int (iI N)), some (.int (iI (k : Int))), none, none] [] := by
    intro f
    induction f using Nat.strongRecOn with
    | _ f ih =>
    intro k N hf hN
    obtain ⟨hOk, hday, hmany⟩ := hO.daysS k (by omega)
    have hmn := hOk.many
    have hdk := hOk.day
    refine V.il3 g0 d_X7_passes_4 ?_
    refine V.il1 g0 d_X7_passes_5 ?_
    refine V.icmpge g0 d_X7_passes_6 (by omega) (fun c_6 => ?_) (fun c_6 => ?_)
    · skip
      have hkd : k = d.toNat := by omega
      subst hkd
      refine V.il2 g0 d_X7_passes_86 ?_
      refine V.iret g d_X7_passes_87 (Nat.zero_le _) (Nat.zero_le _) ⟨congrArg (fun z => some (Value.int (iI z))) ?_, rfl, rfl⟩
      exact hN
    · skip
      refine V.iconst g0 d_X7_passes_9 ?_
      refine V.is4 g0 d_X7_passes_10 ?_
      have LI : ∀ (f2 j : Nat) (N2 : Int), j + f2 = (daysS s k 619).toNat → N2 = daysN s k + overN (daysS s k) j → V E X 0 0 n (va_up M (m + 1) (ia E 622 (overS (daysS s k) j))) 12 [some (.ref m), some (.int (iI d)), some (.int (iI N2)), some (.int (iI (k : Int))), some (.int (iI (j : Int))), none] [] := by
        intro f2
        induction f2 using Nat.strongRecOn with
        | _ f2 ih2 =>
        intro j N2 hf2 hN2
        have hOj := hOk.over j (by omega)
        have e9 := overS_h (s := daysS s k) j (by omega) (j := 619) (by omega)
        refine V.il4 g0 d_X7_passes_12 ?_
        refine V.al0 g0 d_X7_passes_14 ?_
        refine V.getf g0 d_X7_passes_15 fl_X7_7 (by first | assumption | exact hmu _ | exact hau _) (by rfl) ?_
        refine V.sipush g0 d_X7_passes_18 (by decide) ?_
        refine V.iald g0 d_X7_passes_21 (by first | assumption | exact hmu _ | exact hau _) (by omega) (by decide) ?_
        refine V.icmpge g0 d_X7_passes_22 (by rw [e9]; omega) (fun c_22 => ?_) (fun c_22 => ?_)
        · skip
          rw [e9] at c_22
          have hj2 : j = (daysS s k 619).toNat := by omega
          refine V.al0 g0 d_X7_passes_68 ?_
          refine V.getf g0 d_X7_passes_69 fl_X7_7 (by first | assumption | exact hmu _ | exact hau _) (by rfl) ?_
          refine V.sipush g0 d_X7_passes_72 (by decide) ?_
          refine V.dup2 g0 d_X7_passes_75 rfl rfl ?_
          refine V.iald g0 d_X7_passes_76 (by first | assumption | exact hmu _ | exact hau _) (by omega) (by decide) ?_
          refine V.iconst g0 d_X7_passes_77 ?_
          refine V.iadd g0 d_X7_passes_78 ?_
          refine V.iast g0 d_X7_passes_79 (by first | assumption | exact hmu _ | exact hau _) (by omega) (by decide) ?_
          try refine V.eqM up_up ?_
          refine V.eqM (M' := va_up M (m + 1) (ia E 622 (daysS s (k + 1)))) (by rw [hj2]; rfl) ?_
          refine V.inc3 g0 d_X7_passes_80 ?_
          refine V.goto g0 d_X7_passes_83 ?_
          exact V.weak2 (ih (f - 1) (by omega) (k + 1) N2 (by omega) (by show N2 = daysN s k + _; rw [hN2, hj2])) (lcLe_s (lcLe_s (lcLe_s (lcLe_s (lcLe_f (lcLe_f lcLe_n))))))
        · skip
          rw [e9] at c_22
          refine V.al0 g0 d_X7_passes_25 ?_
          refine V.il4 g0 d_X7_passes_26 ?_
          refine V.callVp g0 (c_X7_isOverstay (MS.up hs (overS (daysS s k) j)) (hOj.at (by omega) (by rw [e9]; omega)) (by omega)) ky_X7_isOverstay ki_X7_isOverstay ks2_X7_isOverstay lk_X7_111 (by first | assumption | exact hmu _ | exact hau _) rfl rfl (Nat.le_of_ble_eq_true rfl) ⟨Nat.zero_le _, Nat.zero_le _⟩ rfl rfl (Nat.le_of_ble_eq_true rfl) d_X7_passes_28 ?_
          refine V.ifeqB g0 d_X7_passes_31 (fun c_31 => ?_) (fun c_31 => ?_)
          · skip
            refine V.iconst g0 d_X7_passes_38 ?_
            refine V.is5 g0 d_X7_passes_39 ?_
            refine V.al0 g0 d_X7_passes_41 ?_
            refine V.getf g0 d_X7_passes_42 fl_X7_7 (by first | assumption | exact hmu _ | exact hau _) (by rfl) ?_
            refine V.il4 g0 d_X7_passes_45 ?_
            refine V.iconst g0 d_X7_passes_47 ?_
            refine V.callSp g0 c_X7_of ky_X7_of ks_X7_of lk_X7_43 (Nat.le_of_ble_eq_true rfl) ⟨Nat.zero_le _, Nat.zero_le _⟩ rfl rfl (Nat.le_of_ble_eq_true rfl) d_X7_passes_48 ?_
            refine V.dup2 g0 d_X7_passes_51 rfl rfl ?_
            refine V.iald g0 d_X7_passes_52 (by first | assumption | exact hmu _ | exact hau _) (by omega) (by decide) ?_
            refine V.il5 g0 d_X7_passes_53 ?_
            refine V.iadd g0 d_X7_passes_55 ?_
            refine V.iast g0 d_X7_passes_56 (by first | assumption | exact hmu _ | exact hau _) (by omega) (by decide) ?_
            try refine V.eqM up_up ?_
            refine V.il2 g0 d_X7_passes_57 ?_
            refine V.il5 g0 d_X7_passes_58 ?_
            refine V.iadd g0 d_X7_passes_60 ?_
            refine V.is2 g0 d_X7_passes_61 ?_
            refine V.inc4 g0 d_X7_passes_62 ?_
            refine V.goto g0 d_X7_passes_65 ?_
            exact V.weak2 (V.eqM (congrArg (fun z => va_up M (m + 1) (ia E 622 z)) (by rw [overS]; first | rw [bI_t (by assumption)] | rw [bI_f (by assumption)])) (ih2 (f2 - 1) (by omega) (j + 1) _ (by omega) (by rw [overN, hN2]; first | rw [bI_t (by assumption), Int.add_assoc] | rw [bI_f (by assumption), Int.add_assoc]))) (lcLe_s (lcLe_s (lcLe_s (lcLe_s (lcLe_s (lcLe_f lcLe_n))))))
          · skip
            refine V.iconst g0 d_X7_passes_34 ?_
            refine V.goto g0 d_X7_passes_35 ?_
            refine V.is5 g0 d_X7_passes_39 ?_
            refine V.al0 g0 d_X7_passes_41 ?_
            refine V.getf g0 d_X7_passes_42 fl_X7_7 (by first | assumption | exact hmu _ | exact hau _) (by rfl) ?_
            refine V.il4 g0 d_X7_passes_45 ?_
            refine V.iconst g0 d_X7_passes_47 ?_
            refine V.callSp g0 c_X7_of ky_X7_of ks_X7_of lk_X7_43 (Nat.le_of_ble_eq_true rfl) ⟨Nat.zero_le _, Nat.zero_le _⟩ rfl rfl (Nat.le_of_ble_eq_true rfl) d_X7_passes_48 ?_
            refine V.dup2 g0 d_X7_passes_51 rfl rfl ?_
            refine V.iald g0 d_X7_passes_52 (by first | assumption | exact hmu _ | exact hau _) (by omega) (by decide) ?_
            refine V.il5 g0 d_X7_passes_53 ?_
            refine V.iadd g0 d_X7_passes_55 ?_
            refine V.iast g0 d_X7_passes_56 (by first | assumption | exact hmu _ | exact hau _) (by omega) (by decide) ?_
            try refine V.eqM up_up ?_
            refine V.il2 g0 d_X7_passes_57 ?_
            refine V.il5 g0 d_X7_passes_58 ?_
            refine V.iadd g0 d_X7_passes_60 ?_
            refine V.is2 g0 d_X7_passes_61 ?_
            refine V.inc4 g0 d_X7_passes_62 ?_
            refine V.goto g0 d_X7_passes_65 ?_
            exact V.weak2 (V.eqM (congrArg (fun z => va_up M (m + 1) (ia E 622 z)) (by rw [overS]; first | rw [bI_t (by assumption)] | rw [bI_f (by assumption)])) (ih2 (f2 - 1) (by omega) (j + 1) _ (by omega) (by rw [overN, hN2]; first | rw [bI_t (by assumption), Int.add_assoc] | rw [bI_f (by assumption), Int.add_assoc]))) (lcLe_s (lcLe_s (lcLe_s (lcLe_s (lcLe_s (lcLe_f lcLe_n))))))
      exact LI (daysS s k 619).toNat 0 N (by omega) (by rw [hN]; simp [overN])
  exact V.eqM (up_same ha).symm (LP d.toNat 0 0 (by omega) rfl)

theorem d_X7_errorOfGrant_0 : Dc cX7_errorOfGrant 0 1 1 (.aload_n 0) := ⟨by decide +kernel, rfl⟩
theorem d_X7_errorOfGrant_1 : Dc cX7_errorOfGrant 1 1 2 (.iload_n 1) := ⟨by decide +kernel, rfl⟩
theorem d_X7_errorOfGrant_2 : Dc cX7_errorOfGrant 2 1 3 (.iload_n 2) := ⟨by decide +kernel, rfl⟩
theorem d_X7_errorOfGrant_3 : Dc cX7_errorOfGrant 3 3 6 (.invokevirtual 101) := ⟨by decide +kernel, rfl⟩
theorem d_X7_errorOfGrant_6 : Dj cX7_errorOfGrant 6 9 11 (.ifCond .ne) := ⟨5, by decide +kernel, rfl, by decide⟩
theorem d_X7_errorOfGrant_9 : Dc cX7_errorOfGrant 9 1 10 (.iconst (-1)) := ⟨by decide +kernel, rfl⟩
theorem d_X7_errorOfGrant_10 : decode cX7_errorOfGrant 10 = .ok (.ireturn, 1) := by decide +kernel
theorem d_X7_errorOfGrant_11 : Dc cX7_errorOfGrant 11 1 12 (.iload_n 3) := ⟨by decide +kernel, rfl⟩
theorem d_X7_errorOfGrant_12 : Dc cX7_errorOfGrant 12 2 14 (.iload 4) := ⟨by decide +kernel, rfl⟩
theorem d_X7_errorOfGrant_14 : Dc cX7_errorOfGrant 14 3 17 (.invokestatic 114) := ⟨by decide +kernel, rfl⟩
theorem d_X7_errorOfGrant_17 : Dj cX7_errorOfGrant 17 20 31 (.ifCond .eq) := ⟨14, by decide +kernel, rfl, by decide⟩
theorem d_X7_errorOfGrant_20 : Dc cX7_errorOfGrant 20 2 22 (.iload 5) := ⟨by decide +kernel, rfl⟩
theorem d_X7_errorOfGrant_22 : Dc cX7_errorOfGrant 22 1 23 (.iconst 1) := ⟨by decide +kernel, rfl⟩
theorem d_X7_errorOfGrant_23 : Dc cX7_errorOfGrant 23 2 25 (.bipush 99) := ⟨by decide +kernel, rfl⟩
theorem d_X7_errorOfGrant_25 : Dc cX7_errorOfGrant 25 3 28 (.invokestatic 32) := ⟨by decide +kernel, rfl⟩
theorem d_X7_errorOfGrant_28 : Dj cX7_errorOfGrant 28 31 34 (.ifCond .ne) := ⟨6, by decide +kernel, rfl, by decide⟩
theorem d_X7_errorOfGrant_31 : Dc cX7_errorOfGrant 31 2 33 (.bipush (-2)) := ⟨by decide +kernel, rfl⟩
theorem d_X7_errorOfGrant_33 : decode cX7_errorOfGrant 33 = .ok (.ireturn, 1) := by decide +kernel
theorem d_X7_errorOfGrant_34 : Dc cX7_errorOfGrant 34 1 35 (.aload_n 0) := ⟨by decide +kernel, rfl⟩
theorem d_X7_errorOfGrant_35 : Dc cX7_errorOfGrant 35 1 36 (.iload_n 1) := ⟨by decide +kernel, rfl⟩
theorem d_X7_errorOfGrant_36 : Dc cX7_errorOfGrant 36 1 37 (.iconst 0) := ⟨by decide +kernel, rfl⟩
theorem d_X7_errorOfGrant_37 : Dc cX7_errorOfGrant 37 3 40 (.invokevirtual 50) := ⟨by decide +kernel, rfl⟩
theorem d_X7_errorOfGrant_40 : Dc cX7_errorOfGrant 40 1 41 (.iload_n 2) := ⟨by decide +kernel, rfl⟩
theorem d_X7_errorOfGrant_41 : Dj cX7_errorOfGrant 41 44 49 (.if_icmp .ne) := ⟨8, by decide +kernel, rfl, by decide⟩
theorem d_X7_errorOfGrant_44 : Dc cX7_errorOfGrant 44 2 46 (.bipush (-4)) := ⟨by decide +kernel, rfl⟩
theorem d_X7_errorOfGrant_46 : Dj cX7_errorOfGrant 46 49 50 .goto := ⟨4, by decide +kernel, rfl, by decide⟩
theorem d_X7_errorOfGrant_49 : Dc cX7_errorOfGrant 49 1 50 (.iconst 0) := ⟨by decide +kernel, rfl⟩
theorem d_X7_errorOfGrant_50 : decode cX7_errorOfGrant 50 = .ok (.ireturn, 1) := by decide +kernel
set_option maxHeartbeats 4000000 in
set_option maxRecDepth 20000 in
theorem c_X7_errorOfGrant {E : Ev} {n : Nat} {M : Mem} {m : Nat} {s : Int → Int} (hs : MS E M m s) {p c a u d : Int} (hO : Ok s) (h1 : rg p) (h2 : rg c) (h3 : rg a) (h4 : rg u) (h5 : rg d) : MT E yX7_errorOfGrant cX7_errorOfGrant 6 (some .int) 3 0 0 [.ref m, .int (iI p), .int (iI c), .int (iI a), .int (iI u), .int (iI d)] n M (PF (some (.int (iI (errGrant s p c a u d)))) n M) := by
  refine MT.of (by decide) rfl (Nat.le_of_ble_eq_true rfl) ?_
  intro X g
  have g0 := g.1
  show V E X 0 0 n M 0 [some (.ref m), some (.int (iI p)), some (.int (iI c)), some (.int (iI a)), some (.int (iI u)), some (.int (iI d))] []
  obtain ⟨⟨fr, hm⟩, ha⟩ := id hs
  have hmn := hO.many
  refine V.al0 g0 d_X7_errorOfGrant_0 ?_
  refine V.il1 g0 d_X7_errorOfGrant_1 ?_
  refine V.il2 g0 d_X7_errorOfGrant_2 ?_
  refine V.callVp g0 (c_X7_areThere hs h1 h2 hO.many) ky_X7_areThere ki_X7_areThere ks2_X7_areThere lk_X7_101 (by assumption) rfl rfl (Nat.le_of_ble_eq_true rfl) ⟨Nat.zero_le _, Nat.zero_le _⟩ rfl rfl (Nat.le_of_ble_eq_true rfl) d_X7_errorOfGrant_3 ?_
  refine V.ifneB g0 d_X7_errorOfGrant_6 (fun c_6 => ?_) (fun c_6 => ?_)
  · skip
    refine V.il3 g0 d_X7_errorOfGrant_11 ?_
    refine V.il4 g0 d_X7_errorOfGrant_12 ?_
    refine V.callSp g0 (c_X7_isSpan h3 h4) ky_X7_isSpan ks_X7_isSpan lk_X7_114 (Nat.le_of_ble_eq_true rfl) ⟨Nat.zero_le _, Nat.zero_le _⟩ rfl rfl (Nat.le_of_ble_eq_true rfl) d_X7_errorOfGrant_14 ?_
    refine V.ifeqB g0 d_X7_errorOfGrant_17 (fun c_17 => ?_) (fun c_17 => ?_)
    · skip
      have hno : ¬ (((0 ≤ a ∧ a ≤ 999) ∧ (a ≤ u ∧ u ≤ 999)) ∧ (1 ≤ d ∧ d ≤ 99)) := fun h => c_17 h.1
      refine V.bipush g0 d_X7_errorOfGrant_31 (by decide) ?_
      refine V.iret g d_X7_errorOfGrant_33 (Nat.zero_le _) (Nat.zero_le _) ⟨congrArg (fun z => some (Value.int (iI z))) ?_, rfl, rfl⟩
      rw [errGrant, if_neg (fun h => h c_6), if_pos hno]
    · skip
      refine V.il5 g0 d_X7_errorOfGrant_20 ?_
      refine V.iconst g0 d_X7_errorOfGrant_22 ?_
      refine V.bipush g0 d_X7_errorOfGrant_23 (by decide) ?_
      refine V.callSp g0 (c_X7_in h5 (by decide) (by decide)) ky_X7_in ks_X7_in lk_X7_32 (Nat.le_of_ble_eq_true rfl) ⟨Nat.zero_le _, Nat.zero_le _⟩ rfl rfl (Nat.le_of_ble_eq_true rfl) d_X7_errorOfGrant_25 ?_
      refine V.ifneB g0 d_X7_errorOfGrant_28 (fun c_28 => ?_) (fun c_28 => ?_)
      · skip
        have hyes := And.intro c_17 c_28
        have hP := hO.at c_6.1.1 (by omega)
        have hh := hP.home
        refine V.al0 g0 d_X7_errorOfGrant_34 ?_
        refine V.il1 g0 d_X7_errorOfGrant_35 ?_
        refine V.iconst g0 d_X7_errorOfGrant_36 ?_
        refine V.callVp g0 (c_X7_get hs (by omega)) ky_X7_get ki_X7_get ks2_X7_get lk_X7_50 (by assumption) rfl rfl (Nat.le_of_ble_eq_true rfl) ⟨Nat.zero_le _, Nat.zero_le _⟩ rfl rfl (Nat.le_of_ble_eq_true rfl) d_X7_errorOfGrant_37 ?_
        refine V.il2 g0 d_X7_errorOfGrant_40 ?_
        refine V.icmpne g0 d_X7_errorOfGrant_41 (by omega) (fun c_41 => ?_) (fun c_41 => ?_)
        · skip
          refine V.iconst g0 d_X7_errorOfGrant_49 ?_
          refine V.iret g d_X7_errorOfGrant_50 (Nat.zero_le _) (Nat.zero_le _) ⟨congrArg (fun z => some (Value.int (iI z))) ?_, rfl, rfl⟩
          rw [errGrant, if_neg (fun h => h c_6), if_neg (fun h => h hyes), if_neg c_41]
        · skip
          refine V.bipush g0 d_X7_errorOfGrant_44 (by decide) ?_
          refine V.goto g0 d_X7_errorOfGrant_46 ?_
          refine V.iret g d_X7_errorOfGrant_50 (Nat.zero_le _) (Nat.zero_le _) ⟨congrArg (fun z => some (Value.int (iI z))) ?_, rfl, rfl⟩
          rw [errGrant, if_neg (fun h => h c_6), if_neg (fun h => h hyes), if_pos c_41]
      · skip
        have hno : ¬ (((0 ≤ a ∧ a ≤ 999) ∧ (a ≤ u ∧ u ≤ 999)) ∧ (1 ≤ d ∧ d ≤ 99)) := fun h => c_28 h.2
        refine V.bipush g0 d_X7_errorOfGrant_31 (by decide) ?_
        refine V.iret g d_X7_errorOfGrant_33 (Nat.zero_le _) (Nat.zero_le _) ⟨congrArg (fun z => some (Value.int (iI z))) ?_, rfl, rfl⟩
        rw [errGrant, if_neg (fun h => h c_6), if_pos hno]
  · skip
    refine V.iconst g0 d_X7_errorOfGrant_9 ?_
    refine V.iret g d_X7_errorOfGrant_10 (Nat.zero_le _) (Nat.zero_le _) ⟨congrArg (fun z => some (Value.int (iI z))) ?_, rfl, rfl⟩
    rw [errGrant, if_pos c_6]

theorem d_X7_grants_0 : Dc cX7_grants 0 1 1 (.iload_n 1) := ⟨by decide +kernel, rfl⟩
theorem d_X7_grants_1 : Dc cX7_grants 1 2 3 (.bipush 25) := ⟨by decide +kernel, rfl⟩
theorem d_X7_grants_3 : Dc cX7_grants 3 1 4 (.iconst 3) := ⟨by decide +kernel, rfl⟩
theorem d_X7_grants_4 : Dc cX7_grants 4 1 5 (.iload_n 2) := ⟨by decide +kernel, rfl⟩
theorem d_X7_grants_5 : Dc cX7_grants 5 1 6 .imul := ⟨by decide +kernel, rfl⟩
theorem d_X7_grants_6 : Dc cX7_grants 6 1 7 .iadd := ⟨by decide +kernel, rfl⟩
theorem d_X7_grants_7 : Dc cX7_grants 7 3 10 (.invokestatic 43) := ⟨by decide +kernel, rfl⟩
theorem d_X7_grants_10 : Dc cX7_grants 10 2 12 (.istore 6) := ⟨by decide +kernel, rfl⟩
theorem d_X7_grants_12 : Dc cX7_grants 12 1 13 (.aload_n 0) := ⟨by decide +kernel, rfl⟩
theorem d_X7_grants_13 : Dc cX7_grants 13 3 16 (.getfield 7) := ⟨by decide +kernel, rfl⟩
theorem d_X7_grants_16 : Dc cX7_grants 16 2 18 (.iload 6) := ⟨by decide +kernel, rfl⟩
theorem d_X7_grants_18 : Dc cX7_grants 18 1 19 (.iload_n 3) := ⟨by decide +kernel, rfl⟩
theorem d_X7_grants_19 : Dc cX7_grants 19 1 20 .iastore := ⟨by decide +kernel, rfl⟩
theorem d_X7_grants_20 : Dc cX7_grants 20 1 21 (.aload_n 0) := ⟨by decide +kernel, rfl⟩
theorem d_X7_grants_21 : Dc cX7_grants 21 3 24 (.getfield 7) := ⟨by decide +kernel, rfl⟩
theorem d_X7_grants_24 : Dc cX7_grants 24 2 26 (.iload 6) := ⟨by decide +kernel, rfl⟩
theorem d_X7_grants_26 : Dc cX7_grants 26 1 27 (.iconst 1) := ⟨by decide +kernel, rfl⟩
theorem d_X7_grants_27 : Dc cX7_grants 27 1 28 .iadd := ⟨by decide +kernel, rfl⟩
theorem d_X7_grants_28 : Dc cX7_grants 28 2 30 (.iload 4) := ⟨by decide +kernel, rfl⟩
theorem d_X7_grants_30 : Dc cX7_grants 30 1 31 .iastore := ⟨by decide +kernel, rfl⟩
theorem d_X7_grants_31 : Dc cX7_grants 31 1 32 (.aload_n 0) := ⟨by decide +kernel, rfl⟩
theorem d_X7_grants_32 : Dc cX7_grants 32 3 35 (.getfield 7) := ⟨by decide +kernel, rfl⟩
theorem d_X7_grants_35 : Dc cX7_grants 35 2 37 (.iload 6) := ⟨by decide +kernel, rfl⟩
theorem d_X7_grants_37 : Dc cX7_grants 37 1 38 (.iconst 2) := ⟨by decide +kernel, rfl⟩
theorem d_X7_grants_38 : Dc cX7_grants 38 1 39 .iadd := ⟨by decide +kernel, rfl⟩
theorem d_X7_grants_39 : Dc cX7_grants 39 2 41 (.iload 5) := ⟨by decide +kernel, rfl⟩
theorem d_X7_grants_41 : Dc cX7_grants 41 1 42 .iastore := ⟨by decide +kernel, rfl⟩
theorem d_X7_grants_42 : Dc cX7_grants 42 1 43 (.aload_n 0) := ⟨by decide +kernel, rfl⟩
theorem d_X7_grants_43 : Dc cX7_grants 43 1 44 (.iload_n 1) := ⟨by decide +kernel, rfl⟩
theorem d_X7_grants_44 : Dc cX7_grants 44 1 45 (.iload_n 2) := ⟨by decide +kernel, rfl⟩
theorem d_X7_grants_45 : Dc cX7_grants 45 3 48 (.invokevirtual 89) := ⟨by decide +kernel, rfl⟩
theorem d_X7_grants_48 : decode cX7_grants 48 = .ok (.ireturn, 1) := by decide +kernel
set_option maxHeartbeats 4000000 in
set_option maxRecDepth 20000 in
theorem c_X7_grants {E : Ev} {n : Nat} {M : Mem} {m : Nat} {s : Int → Int} (hs : MS E M m s) {p c a u d : Int} (hO : Ok s) (hp : 0 ≤ p ∧ p < s 619) (hc : 0 ≤ c ∧ c < 6) (h3 : 0 ≤ a ∧ a ≤ 999) (h4 : 0 ≤ u ∧ u ≤ 999) (h5 : 0 ≤ d ∧ d ≤ 99) : MT E yX7_grants cX7_grants 7 (some .int) 8 0 0 [.ref m, .int (iI p), .int (iI c), .int (iI a), .int (iI u), .int (iI d)] n M (PF (some (.int (iI (usedOn (grantS s p c a u d) p c (grantS s p c a u d 618))))) n (va_up M (m + 1) (ia E 622 (grantS s p c a u d)))) := by
  refine MT.of (by decide) rfl (Nat.le_of_ble_eq_true rfl) ?_
  intro X g
  have g0 := g.1
  show V E X 0 0 n M 0 [some (.ref m), some (.int (iI p)), some (.int (iI c)), some (.int (iI a)), some (.int (iI u)), some (.int (iI d)), none] []
  obtain ⟨⟨fr, hm⟩, ha⟩ := id hs
  have hmu : ∀ e, va_up M (m + 1) e m = .inr (7, .ref (m + 1) :: fr) := fun e => by rw [va_up_ne _ _ (by omega)]; exact hm
  have hau : ∀ e, va_up M (m + 1) e (m + 1) = e := fun e => va_up_self _ _ _
  have hmn := hO.many
  have hO2 := hO.grant hp hc h3 h4 h5
  have e9 : grantS s p c a u d 619 = s 619 := grantS_n (by omega)
  refine V.il1 g0 d_X7_grants_0 ?_
  refine V.bipush g0 d_X7_grants_1 (by decide) ?_
  refine V.iconst g0 d_X7_grants_3 ?_
  refine V.il2 g0 d_X7_grants_4 ?_
  refine V.imul g0 d_X7_grants_5 ?_
  refine V.iadd g0 d_X7_grants_6 ?_
  refine V.callSp g0 c_X7_of ky_X7_of ks_X7_of lk_X7_43 (Nat.le_of_ble_eq_true rfl) ⟨Nat.zero_le _, Nat.zero_le _⟩ rfl rfl (Nat.le_of_ble_eq_true rfl) d_X7_grants_7 ?_
  refine V.is6 g0 d_X7_grants_10 ?_
  refine V.al0 g0 d_X7_grants_12 ?_
  refine V.getf g0 d_X7_grants_13 fl_X7_7 (by first | assumption | exact hmu _ | exact hau _) (by rfl) ?_
  refine V.il6 g0 d_X7_grants_16 ?_
  refine V.il3 g0 d_X7_grants_18 ?_
  refine V.iast g0 d_X7_grants_19 (by first | assumption | exact hmu _ | exact hau _) (by omega) (by decide) ?_
  try refine V.eqM up_up ?_
  refine V.al0 g0 d_X7_grants_20 ?_
  refine V.getf g0 d_X7_grants_21 fl_X7_7 (by first | assumption | exact hmu _ | exact hau _) (by rfl) ?_
  refine V.il6 g0 d_X7_grants_24 ?_
  refine V.iconst g0 d_X7_grants_26 ?_
  refine V.iadd g0 d_X7_grants_27 ?_
  refine V.il4 g0 d_X7_grants_28 ?_
  refine V.iast g0 d_X7_grants_30 (by first | assumption | exact hmu _ | exact hau _) (by omega) (by decide) ?_
  try refine V.eqM up_up ?_
  refine V.al0 g0 d_X7_grants_31 ?_
  refine V.getf g0 d_X7_grants_32 fl_X7_7 (by first | assumption | exact hmu _ | exact hau _) (by rfl) ?_
  refine V.il6 g0 d_X7_grants_35 ?_
  refine V.iconst g0 d_X7_grants_37 ?_
  refine V.iadd g0 d_X7_grants_38 ?_
  refine V.il5 g0 d_X7_grants_39 ?_
  refine V.iast g0 d_X7_grants_41 (by first | assumption | exact hmu _ | exact hau _) (by omega) (by decide) ?_
  try refine V.eqM up_up ?_
  change V E X 0 0 n (va_up M (m + 1) (ia E 622 (grantS s p c a u d))) _ _ _
  refine V.al0 g0 d_X7_grants_42 ?_
  refine V.il1 g0 d_X7_grants_43 ?_
  refine V.il2 g0 d_X7_grants_44 ?_
  refine V.callVp g0 (c_X7_used (MS.up hs (grantS s p c a u d)) (hO2.at hp.1 (by omega)) (by omega) hc) ky_X7_used ki_X7_used ks2_X7_used lk_X7_89 (by first | assumption | exact hmu _ | exact hau _) rfl rfl (Nat.le_of_ble_eq_true rfl) ⟨Nat.zero_le _, Nat.zero_le _⟩ rfl rfl (Nat.le_of_ble_eq_true rfl) d_X7_grants_45 ?_
  refine V.iret g d_X7_grants_48 (Nat.zero_le _) (Nat.zero_le _) ⟨congrArg (fun z => some (Value.int (iI z))) ?_, rfl, rfl⟩
  rfl

theorem d_X7_begins_0 : Dc cX7_begins 0 1 1 (.aload_n 0) := ⟨by decide +kernel, rfl⟩
theorem d_X7_begins_1 : Dc cX7_begins 1 3 4 (.getfield 7) := ⟨by decide +kernel, rfl⟩
theorem d_X7_begins_4 : Dc cX7_begins 4 1 5 (.iload_n 1) := ⟨by decide +kernel, rfl⟩
theorem d_X7_begins_5 : Dc cX7_begins 5 2 7 (.bipush 6) := ⟨by decide +kernel, rfl⟩
theorem d_X7_begins_7 : Dc cX7_begins 7 3 10 (.invokestatic 43) := ⟨by decide +kernel, rfl⟩
theorem d_X7_begins_10 : Dc cX7_begins 10 1 11 (.iload_n 2) := ⟨by decide +kernel, rfl⟩
theorem d_X7_begins_11 : Dc cX7_begins 11 1 12 .iastore := ⟨by decide +kernel, rfl⟩
theorem d_X7_begins_12 : Dc cX7_begins 12 1 13 (.aload_n 0) := ⟨by decide +kernel, rfl⟩
theorem d_X7_begins_13 : Dc cX7_begins 13 3 16 (.getfield 7) := ⟨by decide +kernel, rfl⟩
theorem d_X7_begins_16 : Dc cX7_begins 16 1 17 (.iload_n 1) := ⟨by decide +kernel, rfl⟩
theorem d_X7_begins_17 : Dc cX7_begins 17 2 19 (.bipush 7) := ⟨by decide +kernel, rfl⟩
theorem d_X7_begins_19 : Dc cX7_begins 19 3 22 (.invokestatic 43) := ⟨by decide +kernel, rfl⟩
theorem d_X7_begins_22 : Dc cX7_begins 22 1 23 (.aload_n 0) := ⟨by decide +kernel, rfl⟩
theorem d_X7_begins_23 : Dc cX7_begins 23 3 26 (.getfield 7) := ⟨by decide +kernel, rfl⟩
theorem d_X7_begins_26 : Dc cX7_begins 26 3 29 (.sipush 618) := ⟨by decide +kernel, rfl⟩
theorem d_X7_begins_29 : Dc cX7_begins 29 1 30 .iaload := ⟨by decide +kernel, rfl⟩
theorem d_X7_begins_30 : Dc cX7_begins 30 1 31 .iastore := ⟨by decide +kernel, rfl⟩
theorem d_X7_begins_31 : Dc cX7_begins 31 1 32 (.aload_n 0) := ⟨by decide +kernel, rfl⟩
theorem d_X7_begins_32 : Dc cX7_begins 32 3 35 (.getfield 7) := ⟨by decide +kernel, rfl⟩
theorem d_X7_begins_35 : Dc cX7_begins 35 1 36 (.iload_n 1) := ⟨by decide +kernel, rfl⟩
theorem d_X7_begins_36 : Dc cX7_begins 36 2 38 (.bipush 8) := ⟨by decide +kernel, rfl⟩
theorem d_X7_begins_38 : Dc cX7_begins 38 3 41 (.invokestatic 43) := ⟨by decide +kernel, rfl⟩
theorem d_X7_begins_41 : Dc cX7_begins 41 1 42 (.iconst 0) := ⟨by decide +kernel, rfl⟩
theorem d_X7_begins_42 : Dc cX7_begins 42 1 43 .iastore := ⟨by decide +kernel, rfl⟩
theorem d_X7_begins_43 : Dc cX7_begins 43 1 44 (.aload_n 0) := ⟨by decide +kernel, rfl⟩
theorem d_X7_begins_44 : Dc cX7_begins 44 3 47 (.getfield 7) := ⟨by decide +kernel, rfl⟩
theorem d_X7_begins_47 : Dc cX7_begins 47 1 48 (.iload_n 1) := ⟨by decide +kernel, rfl⟩
theorem d_X7_begins_48 : Dc cX7_begins 48 1 49 (.iconst 5) := ⟨by decide +kernel, rfl⟩
theorem d_X7_begins_49 : Dc cX7_begins 49 3 52 (.invokestatic 43) := ⟨by decide +kernel, rfl⟩
theorem d_X7_begins_52 : Dc cX7_begins 52 1 53 .dup2 := ⟨by decide +kernel, rfl⟩
theorem d_X7_begins_53 : Dc cX7_begins 53 1 54 .iaload := ⟨by decide +kernel, rfl⟩
theorem d_X7_begins_54 : Dc cX7_begins 54 1 55 (.iconst 1) := ⟨by decide +kernel, rfl⟩
theorem d_X7_begins_55 : Dc cX7_begins 55 1 56 .iadd := ⟨by decide +kernel, rfl⟩
theorem d_X7_begins_56 : Dc cX7_begins 56 1 57 .iastore := ⟨by decide +kernel, rfl⟩
theorem d_X7_begins_57 : decode cX7_begins 57 = .ok (.return_, 1) := by decide +kernel
set_option maxHeartbeats 4000000 in
set_option maxRecDepth 20000 in
theorem c_X7_begins {E : Ev} {n : Nat} {M : Mem} {m : Nat} {s : Int → Int} (hs : MS E M m s) {p c : Int} (hp : 0 ≤ p ∧ p < 6) : MT E yX7_begins cX7_begins 3 none 1 0 0 [.ref m, .int (iI p), .int (iI c)] n M (PF (none) n (va_up M (m + 1) (ia E 622 (beginS s p c)))) := by
  refine MT.of (by decide) rfl (Nat.le_of_ble_eq_true rfl) ?_
  intro X g
  have g0 := g.1
  show V E X 0 0 n M 0 [some (.ref m), some (.int (iI p)), some (.int (iI c))] []
  obtain ⟨⟨fr, hm⟩, ha⟩ := id hs
  have hmu : ∀ e, va_up M (m + 1) e m = .inr (7, .ref (m + 1) :: fr) := fun e => by rw [va_up_ne _ _ (by omega)]; exact hm
  have hau : ∀ e, va_up M (m + 1) e (m + 1) = e := fun e => va_up_self _ _ _
  refine V.al0 g0 d_X7_begins_0 ?_
  refine V.getf g0 d_X7_begins_1 fl_X7_7 (by first | assumption | exact hmu _ | exact hau _) (by rfl) ?_
  refine V.il1 g0 d_X7_begins_4 ?_
  refine V.bipush g0 d_X7_begins_5 (by decide) ?_
  refine V.callSp g0 c_X7_of ky_X7_of ks_X7_of lk_X7_43 (Nat.le_of_ble_eq_true rfl) ⟨Nat.zero_le _, Nat.zero_le _⟩ rfl rfl (Nat.le_of_ble_eq_true rfl) d_X7_begins_7 ?_
  refine V.il2 g0 d_X7_begins_10 ?_
  refine V.iast g0 d_X7_begins_11 (by first | assumption | exact hmu _ | exact hau _) (by omega) (by decide) ?_
  try refine V.eqM up_up ?_
  refine V.al0 g0 d_X7_begins_12 ?_
  refine V.getf g0 d_X7_begins_13 fl_X7_7 (by first | assumption | exact hmu _ | exact hau _) (by rfl) ?_
  refine V.il1 g0 d_X7_begins_16 ?_
  refine V.bipush g0 d_X7_begins_17 (by decide) ?_
  refine V.callSp g0 c_X7_of ky_X7_of ks_X7_of lk_X7_43 (Nat.le_of_ble_eq_true rfl) ⟨Nat.zero_le _, Nat.zero_le _⟩ rfl rfl (Nat.le_of_ble_eq_true rfl) d_X7_begins_19 ?_
  refine V.al0 g0 d_X7_begins_22 ?_
  refine V.getf g0 d_X7_begins_23 fl_X7_7 (by first | assumption | exact hmu _ | exact hau _) (by rfl) ?_
  refine V.sipush g0 d_X7_begins_26 (by decide) ?_
  refine V.iald g0 d_X7_begins_29 (by first | assumption | exact hmu _ | exact hau _) (by omega) (by decide) ?_
  refine V.iast g0 d_X7_begins_30 (by first | assumption | exact hmu _ | exact hau _) (by omega) (by decide) ?_
  try refine V.eqM up_up ?_
  refine V.al0 g0 d_X7_begins_31 ?_
  refine V.getf g0 d_X7_begins_32 fl_X7_7 (by first | assumption | exact hmu _ | exact hau _) (by rfl) ?_
  refine V.il1 g0 d_X7_begins_35 ?_
  refine V.bipush g0 d_X7_begins_36 (by decide) ?_
  refine V.callSp g0 c_X7_of ky_X7_of ks_X7_of lk_X7_43 (Nat.le_of_ble_eq_true rfl) ⟨Nat.zero_le _, Nat.zero_le _⟩ rfl rfl (Nat.le_of_ble_eq_true rfl) d_X7_begins_38 ?_
  refine V.iconst g0 d_X7_begins_41 ?_
  refine V.iast g0 d_X7_begins_42 (by first | assumption | exact hmu _ | exact hau _) (by omega) (by decide) ?_
  try refine V.eqM up_up ?_
  refine V.al0 g0 d_X7_begins_43 ?_
  refine V.getf g0 d_X7_begins_44 fl_X7_7 (by first | assumption | exact hmu _ | exact hau _) (by rfl) ?_
  refine V.il1 g0 d_X7_begins_47 ?_
  refine V.iconst g0 d_X7_begins_48 ?_
  refine V.callSp g0 c_X7_of ky_X7_of ks_X7_of lk_X7_43 (Nat.le_of_ble_eq_true rfl) ⟨Nat.zero_le _, Nat.zero_le _⟩ rfl rfl (Nat.le_of_ble_eq_true rfl) d_X7_begins_49 ?_
  refine V.dup2 g0 d_X7_begins_52 rfl rfl ?_
  refine V.iald g0 d_X7_begins_53 (by first | assumption | exact hmu _ | exact hau _) (by omega) (by decide) ?_
  refine V.iconst g0 d_X7_begins_54 ?_
  refine V.iadd g0 d_X7_begins_55 ?_
  refine V.iast g0 d_X7_begins_56 (by first | assumption | exact hmu _ | exact hau _) (by omega) (by decide) ?_
  try refine V.eqM up_up ?_
  refine V.vret g d_X7_begins_57 (Nat.zero_le _) (Nat.zero_le _) ?_
  exact ⟨rfl, rfl, rfl⟩
