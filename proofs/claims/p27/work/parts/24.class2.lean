theorem d_X0_stamps_0 : Dc cX0_stamps 0 1 1 (.aload_n 0) := ⟨by decide +kernel, rfl⟩
theorem d_X0_stamps_1 : Dc cX0_stamps 1 3 4 (.getfield 14) := ⟨by decide +kernel, rfl⟩
theorem d_X0_stamps_4 : Dc cX0_stamps 4 3 7 (.getfield 49) := ⟨by decide +kernel, rfl⟩
theorem d_X0_stamps_7 : decode cX0_stamps 7 = .ok (.ireturn, 1) := by decide +kernel
set_option maxHeartbeats 4000000 in
set_option maxRecDepth 20000 in
theorem c_X0_stamps {E : Ev} {n : Nat} {M : Mem} {m : Nat} {bd bp bc : Int → Int} {bk : Int} (hB : BoM E M m bd bp bk bc) (ho : BoOk bd bp bk bc) : MT E yX0_stamps cX0_stamps 1 (some .int) 0 0 0 [.ref m] n M (PF (some (.int (iI (bk)))) n (M)) := by
  refine MT.of (by decide) rfl (Nat.le_of_ble_eq_true rfl) ?_
  intro X g
  have g0 := g.1
  show V E X 0 0 n M 0 [some (.ref m)] []
  have b0 := hB.h0
  have b1 := hB.h1
  have b4 := hB.h4
  have ho1 := ho.1.1
  refine V.al0 g0 d_X0_stamps_0 ?_
  refine V.getf g0 d_X0_stamps_1 fl_X0_14 (by assumption) (by rfl) ?_
  refine V.getf g0 d_X0_stamps_4 fl_X0_49 (by assumption) (by rfl) ?_
  refine V.iret g d_X0_stamps_7 (Nat.zero_le _) (Nat.zero_le _) ⟨congrArg (fun z => some (Value.int (iI z))) ?_, rfl, rfl⟩
  rfl

theorem d_X0_hasStamp_0 : Dc cX0_hasStamp 0 1 1 (.iload_n 1) := ⟨by decide +kernel, rfl⟩
theorem d_X0_hasStamp_1 : Dj cX0_hasStamp 1 4 19 (.ifCond .lt) := ⟨18, by decide +kernel, rfl, by decide⟩
theorem d_X0_hasStamp_4 : Dc cX0_hasStamp 4 1 5 (.iload_n 1) := ⟨by decide +kernel, rfl⟩
theorem d_X0_hasStamp_5 : Dc cX0_hasStamp 5 1 6 (.aload_n 0) := ⟨by decide +kernel, rfl⟩
theorem d_X0_hasStamp_6 : Dc cX0_hasStamp 6 3 9 (.getfield 14) := ⟨by decide +kernel, rfl⟩
theorem d_X0_hasStamp_9 : Dc cX0_hasStamp 9 3 12 (.getfield 49) := ⟨by decide +kernel, rfl⟩
theorem d_X0_hasStamp_12 : Dj cX0_hasStamp 12 15 19 (.if_icmp .ge) := ⟨7, by decide +kernel, rfl, by decide⟩
theorem d_X0_hasStamp_15 : Dc cX0_hasStamp 15 1 16 (.iconst 1) := ⟨by decide +kernel, rfl⟩
theorem d_X0_hasStamp_16 : Dj cX0_hasStamp 16 19 20 .goto := ⟨4, by decide +kernel, rfl, by decide⟩
theorem d_X0_hasStamp_19 : Dc cX0_hasStamp 19 1 20 (.iconst 0) := ⟨by decide +kernel, rfl⟩
theorem d_X0_hasStamp_20 : decode cX0_hasStamp 20 = .ok (.ireturn, 1) := by decide +kernel
set_option maxHeartbeats 4000000 in
set_option maxRecDepth 20000 in
theorem c_X0_hasStamp {E : Ev} {n : Nat} {M : Mem} {m : Nat} {bd bp bc : Int → Int} {bk : Int} (hB : BoM E M m bd bp bk bc) (ho : BoOk bd bp bk bc) {r : Int} (h1 : rg r) : MT E yX0_hasStamp cX0_hasStamp 2 (some .boolean) 0 0 0 [.ref m, .int (iI r)] n M (PF (some (.int (iI (bI (0 ≤ r ∧ r < bk))))) n (M)) := by
  refine MT.of (by decide) rfl (Nat.le_of_ble_eq_true rfl) ?_
  intro X g
  have g0 := g.1
  show V E X 0 0 n M 0 [some (.ref m), some (.int (iI r))] []
  have b0 := hB.h0
  have b1 := hB.h1
  have b4 := hB.h4
  have ho1 := ho.1.1
  refine V.il1 g0 d_X0_hasStamp_0 ?_
  refine V.iflt g0 d_X0_hasStamp_1 (by omega) (fun c_1 => ?_) (fun c_1 => ?_)
  · skip
    refine V.iconst g0 d_X0_hasStamp_19 ?_
    refine V.zret g d_X0_hasStamp_20 (by first | exact Or.inl rfl | exact Or.inr rfl | exact bI_01 _) (Nat.zero_le _) (Nat.zero_le _) ⟨congrArg (fun z => some (Value.int (iI z))) ?_, rfl, rfl⟩
    exact (bI_f (by omega)).symm
  · skip
    refine V.il1 g0 d_X0_hasStamp_4 ?_
    refine V.al0 g0 d_X0_hasStamp_5 ?_
    refine V.getf g0 d_X0_hasStamp_6 fl_X0_14 (by assumption) (by rfl) ?_
    refine V.getf g0 d_X0_hasStamp_9 fl_X0_49 (by assumption) (by rfl) ?_
    refine V.icmpge g0 d_X0_hasStamp_12 (by omega) (fun c_12 => ?_) (fun c_12 => ?_)
    · skip
      refine V.iconst g0 d_X0_hasStamp_19 ?_
      refine V.zret g d_X0_hasStamp_20 (by first | exact Or.inl rfl | exact Or.inr rfl | exact bI_01 _) (Nat.zero_le _) (Nat.zero_le _) ⟨congrArg (fun z => some (Value.int (iI z))) ?_, rfl, rfl⟩
      exact (bI_f (by omega)).symm
    · skip
      refine V.iconst g0 d_X0_hasStamp_15 ?_
      refine V.goto g0 d_X0_hasStamp_16 ?_
      refine V.zret g d_X0_hasStamp_20 (by first | exact Or.inl rfl | exact Or.inr rfl | exact bI_01 _) (Nat.zero_le _) (Nat.zero_le _) ⟨congrArg (fun z => some (Value.int (iI z))) ?_, rfl, rfl⟩
      exact (bI_t ⟨by omega, by omega⟩).symm

theorem d_X0_dayOf_0 : Dc cX0_dayOf 0 1 1 (.aload_n 0) := ⟨by decide +kernel, rfl⟩
theorem d_X0_dayOf_1 : Dc cX0_dayOf 1 3 4 (.getfield 14) := ⟨by decide +kernel, rfl⟩
theorem d_X0_dayOf_4 : Dc cX0_dayOf 4 1 5 (.iload_n 1) := ⟨by decide +kernel, rfl⟩
theorem d_X0_dayOf_5 : Dc cX0_dayOf 5 1 6 (.iconst 1) := ⟨by decide +kernel, rfl⟩
theorem d_X0_dayOf_6 : Dc cX0_dayOf 6 1 7 .iadd := ⟨by decide +kernel, rfl⟩
theorem d_X0_dayOf_7 : Dc cX0_dayOf 7 3 10 (.invokevirtual 53) := ⟨by decide +kernel, rfl⟩
theorem d_X0_dayOf_10 : decode cX0_dayOf 10 = .ok (.ireturn, 1) := by decide +kernel
set_option maxHeartbeats 4000000 in
set_option maxRecDepth 20000 in
theorem c_X0_dayOf {E : Ev} {n : Nat} {M : Mem} {m : Nat} {bd bp bc : Int → Int} {bk : Int} (hB : BoM E M m bd bp bk bc) (ho : BoOk bd bp bk bc) {r : Int} (h1 : -10 ≤ r ∧ r ≤ 1000000) : MT E yX0_dayOf cX0_dayOf 2 (some .int) 2 0 0 [.ref m, .int (iI r)] n M (PF (some (.int (iI (aft bd bk (r + 1))))) n (M)) := by
  refine MT.of (by decide) rfl (Nat.le_of_ble_eq_true rfl) ?_
  intro X g
  have g0 := g.1
  show V E X 0 0 n M 0 [some (.ref m), some (.int (iI r))] []
  have b0 := hB.h0
  have b1 := hB.h1
  have b4 := hB.h4
  have ho1 := ho.1.1
  refine V.al0 g0 d_X0_dayOf_0 ?_
  refine V.getf g0 d_X0_dayOf_1 fl_X0_14 (by assumption) (by rfl) ?_
  refine V.il1 g0 d_X0_dayOf_4 ?_
  refine V.iconst g0 d_X0_dayOf_5 ?_
  refine V.iadd g0 d_X0_dayOf_6 ?_
  refine V.callVp g0 (c_X4_dayAfter hB.tr ho.1 (by constructor <;> omega)) ky_X4_dayAfter ki_X4_dayAfter ks2_X4_dayAfter lk_X0_53 (by assumption) rfl rfl (Nat.le_of_ble_eq_true rfl) ⟨Nat.zero_le _, Nat.zero_le _⟩ rfl rfl (Nat.le_of_ble_eq_true rfl) d_X0_dayOf_7 ?_
  refine V.iret g d_X0_dayOf_10 (Nat.zero_le _) (Nat.zero_le _) ⟨congrArg (fun z => some (Value.int (iI z))) ?_, rfl, rfl⟩
  rfl

theorem d_X0_countryOf_0 : Dc cX0_countryOf 0 1 1 (.aload_n 0) := ⟨by decide +kernel, rfl⟩
theorem d_X0_countryOf_1 : Dc cX0_countryOf 1 1 2 (.iload_n 1) := ⟨by decide +kernel, rfl⟩
theorem d_X0_countryOf_2 : Dc cX0_countryOf 2 3 5 (.invokevirtual 57) := ⟨by decide +kernel, rfl⟩
theorem d_X0_countryOf_5 : Dj cX0_countryOf 5 8 17 (.ifCond .eq) := ⟨12, by decide +kernel, rfl, by decide⟩
theorem d_X0_countryOf_8 : Dc cX0_countryOf 8 1 9 (.aload_n 0) := ⟨by decide +kernel, rfl⟩
theorem d_X0_countryOf_9 : Dc cX0_countryOf 9 3 12 (.getfield 20) := ⟨by decide +kernel, rfl⟩
theorem d_X0_countryOf_12 : Dc cX0_countryOf 12 1 13 (.iload_n 1) := ⟨by decide +kernel, rfl⟩
theorem d_X0_countryOf_13 : Dc cX0_countryOf 13 1 14 .iaload := ⟨by decide +kernel, rfl⟩
theorem d_X0_countryOf_14 : Dj cX0_countryOf 14 17 19 .goto := ⟨5, by decide +kernel, rfl, by decide⟩
theorem d_X0_countryOf_17 : Dc cX0_countryOf 17 2 19 (.bipush (-5)) := ⟨by decide +kernel, rfl⟩
theorem d_X0_countryOf_19 : decode cX0_countryOf 19 = .ok (.ireturn, 1) := by decide +kernel
set_option maxHeartbeats 4000000 in
set_option maxRecDepth 20000 in
theorem c_X0_countryOf {E : Ev} {n : Nat} {M : Mem} {m : Nat} {bd bp bc : Int → Int} {bk : Int} (hB : BoM E M m bd bp bk bc) (ho : BoOk bd bp bk bc) {r : Int} (h1 : rg r) : MT E yX0_countryOf cX0_countryOf 2 (some .int) 1 0 0 [.ref m, .int (iI r)] n M (PF (some (.int (iI (cOf bc bk r)))) n (M)) := by
  refine MT.of (by decide) rfl (Nat.le_of_ble_eq_true rfl) ?_
  intro X g
  have g0 := g.1
  show V E X 0 0 n M 0 [some (.ref m), some (.int (iI r))] []
  have b0 := hB.h0
  have b1 := hB.h1
  have b4 := hB.h4
  have ho1 := ho.1.1
  refine V.al0 g0 d_X0_countryOf_0 ?_
  refine V.il1 g0 d_X0_countryOf_1 ?_
  refine V.callVp g0 (c_X0_hasStamp hB ho h1) ky_X0_hasStamp ki_X0_hasStamp ks2_X0_hasStamp lk_X0_57 (by assumption) rfl rfl (Nat.le_of_ble_eq_true rfl) ⟨Nat.zero_le _, Nat.zero_le _⟩ rfl rfl (Nat.le_of_ble_eq_true rfl) d_X0_countryOf_2 ?_
  refine V.ifeqB g0 d_X0_countryOf_5 (fun c_5 => ?_) (fun c_5 => ?_)
  · skip
    refine V.bipush g0 d_X0_countryOf_17 (by decide) ?_
    refine V.iret g d_X0_countryOf_19 (Nat.zero_le _) (Nat.zero_le _) ⟨congrArg (fun z => some (Value.int (iI z))) ?_, rfl, rfl⟩
    exact (if_neg c_5).symm
  · skip
    have hr := c_5
    refine V.al0 g0 d_X0_countryOf_8 ?_
    refine V.getf g0 d_X0_countryOf_9 fl_X0_20 (by assumption) (by rfl) ?_
    refine V.il1 g0 d_X0_countryOf_12 ?_
    refine V.iald g0 d_X0_countryOf_13 (by assumption) (by omega) (by decide) ?_
    refine V.goto g0 d_X0_countryOf_14 ?_
    refine V.iret g d_X0_countryOf_19 (Nat.zero_le _) (Nat.zero_le _) ⟨congrArg (fun z => some (Value.int (iI z))) ?_, rfl, rfl⟩
    exact (if_pos c_5).symm

theorem d_X0_isEntry_0 : Dc cX0_isEntry 0 1 1 (.aload_n 0) := ⟨by decide +kernel, rfl⟩
theorem d_X0_isEntry_1 : Dc cX0_isEntry 1 3 4 (.getfield 14) := ⟨by decide +kernel, rfl⟩
theorem d_X0_isEntry_4 : Dc cX0_isEntry 4 1 5 (.iload_n 1) := ⟨by decide +kernel, rfl⟩
theorem d_X0_isEntry_5 : Dc cX0_isEntry 5 1 6 (.iconst 1) := ⟨by decide +kernel, rfl⟩
theorem d_X0_isEntry_6 : Dc cX0_isEntry 6 1 7 .iadd := ⟨by decide +kernel, rfl⟩
theorem d_X0_isEntry_7 : Dc cX0_isEntry 7 3 10 (.invokevirtual 61) := ⟨by decide +kernel, rfl⟩
theorem d_X0_isEntry_10 : Dc cX0_isEntry 10 2 12 (.bipush (-5)) := ⟨by decide +kernel, rfl⟩
theorem d_X0_isEntry_12 : Dj cX0_isEntry 12 15 19 (.if_icmp .eq) := ⟨7, by decide +kernel, rfl, by decide⟩
theorem d_X0_isEntry_15 : Dc cX0_isEntry 15 1 16 (.iconst 1) := ⟨by decide +kernel, rfl⟩
theorem d_X0_isEntry_16 : Dj cX0_isEntry 16 19 20 .goto := ⟨4, by decide +kernel, rfl, by decide⟩
theorem d_X0_isEntry_19 : Dc cX0_isEntry 19 1 20 (.iconst 0) := ⟨by decide +kernel, rfl⟩
theorem d_X0_isEntry_20 : decode cX0_isEntry 20 = .ok (.ireturn, 1) := by decide +kernel
set_option maxHeartbeats 4000000 in
set_option maxRecDepth 20000 in
theorem c_X0_isEntry {E : Ev} {n : Nat} {M : Mem} {m : Nat} {bd bp bc : Int → Int} {bk : Int} (hB : BoM E M m bd bp bk bc) (ho : BoOk bd bp bk bc) {r : Int} (h1 : -10 ≤ r ∧ r ≤ 1000000) : MT E yX0_isEntry cX0_isEntry 2 (some .boolean) 2 0 0 [.ref m, .int (iI r)] n M (PF (some (.int (iI (bI (entC bp bk r))))) n (M)) := by
  refine MT.of (by decide) rfl (Nat.le_of_ble_eq_true rfl) ?_
  intro X g
  have g0 := g.1
  show V E X 0 0 n M 0 [some (.ref m), some (.int (iI r))] []
  have b0 := hB.h0
  have b1 := hB.h1
  have b4 := hB.h4
  have ho1 := ho.1.1
  have ha := aft_b (i := r + 1) ho.1
  refine V.al0 g0 d_X0_isEntry_0 ?_
  refine V.getf g0 d_X0_isEntry_1 fl_X0_14 (by assumption) (by rfl) ?_
  refine V.il1 g0 d_X0_isEntry_4 ?_
  refine V.iconst g0 d_X0_isEntry_5 ?_
  refine V.iadd g0 d_X0_isEntry_6 ?_
  refine V.callVp g0 (c_X4_placeAfter hB.tr ho.1 (by constructor <;> omega)) ky_X4_placeAfter ki_X4_placeAfter ks2_X4_placeAfter lk_X0_61 (by assumption) rfl rfl (Nat.le_of_ble_eq_true rfl) ⟨Nat.zero_le _, Nat.zero_le _⟩ rfl rfl (Nat.le_of_ble_eq_true rfl) d_X0_isEntry_7 ?_
  refine V.bipush g0 d_X0_isEntry_10 (by decide) ?_
  refine V.icmpeq g0 d_X0_isEntry_12 (by omega) (fun c_12 => ?_) (fun c_12 => ?_)
  · skip
    refine V.iconst g0 d_X0_isEntry_19 ?_
    refine V.zret g d_X0_isEntry_20 (by first | exact Or.inl rfl | exact Or.inr rfl | exact bI_01 _) (Nat.zero_le _) (Nat.zero_le _) ⟨congrArg (fun z => some (Value.int (iI z))) ?_, rfl, rfl⟩
    exact (bI_f (fun q => q c_12)).symm
  · skip
    refine V.iconst g0 d_X0_isEntry_15 ?_
    refine V.goto g0 d_X0_isEntry_16 ?_
    refine V.zret g d_X0_isEntry_20 (by first | exact Or.inl rfl | exact Or.inr rfl | exact bI_01 _) (Nat.zero_le _) (Nat.zero_le _) ⟨congrArg (fun z => some (Value.int (iI z))) ?_, rfl, rfl⟩
    exact (bI_t c_12).symm

theorem d_X0_isGap_0 : Dc cX0_isGap 0 1 1 (.aload_n 0) := ⟨by decide +kernel, rfl⟩
theorem d_X0_isGap_1 : Dc cX0_isGap 1 1 2 (.iload_n 1) := ⟨by decide +kernel, rfl⟩
theorem d_X0_isGap_2 : Dc cX0_isGap 2 3 5 (.invokevirtual 64) := ⟨by decide +kernel, rfl⟩
theorem d_X0_isGap_5 : Dj cX0_isGap 5 8 13 (.ifCond .eq) := ⟨8, by decide +kernel, rfl, by decide⟩
theorem d_X0_isGap_8 : Dc cX0_isGap 8 2 10 (.bipush (-5)) := ⟨by decide +kernel, rfl⟩
theorem d_X0_isGap_10 : Dj cX0_isGap 10 13 18 .goto := ⟨8, by decide +kernel, rfl, by decide⟩
theorem d_X0_isGap_13 : Dc cX0_isGap 13 1 14 (.aload_n 0) := ⟨by decide +kernel, rfl⟩
theorem d_X0_isGap_14 : Dc cX0_isGap 14 1 15 (.iload_n 1) := ⟨by decide +kernel, rfl⟩
theorem d_X0_isGap_15 : Dc cX0_isGap 15 3 18 (.invokevirtual 67) := ⟨by decide +kernel, rfl⟩
theorem d_X0_isGap_18 : Dc cX0_isGap 18 1 19 (.istore_n 2) := ⟨by decide +kernel, rfl⟩
theorem d_X0_isGap_19 : Dc cX0_isGap 19 1 20 (.aload_n 0) := ⟨by decide +kernel, rfl⟩
theorem d_X0_isGap_20 : Dc cX0_isGap 20 3 23 (.getfield 14) := ⟨by decide +kernel, rfl⟩
theorem d_X0_isGap_23 : Dc cX0_isGap 23 1 24 (.iload_n 1) := ⟨by decide +kernel, rfl⟩
theorem d_X0_isGap_24 : Dc cX0_isGap 24 3 27 (.invokevirtual 61) := ⟨by decide +kernel, rfl⟩
theorem d_X0_isGap_27 : Dc cX0_isGap 27 1 28 (.iload_n 2) := ⟨by decide +kernel, rfl⟩
theorem d_X0_isGap_28 : Dj cX0_isGap 28 31 35 (.if_icmp .eq) := ⟨7, by decide +kernel, rfl, by decide⟩
theorem d_X0_isGap_31 : Dc cX0_isGap 31 1 32 (.iconst 1) := ⟨by decide +kernel, rfl⟩
theorem d_X0_isGap_32 : Dj cX0_isGap 32 35 36 .goto := ⟨4, by decide +kernel, rfl, by decide⟩
theorem d_X0_isGap_35 : Dc cX0_isGap 35 1 36 (.iconst 0) := ⟨by decide +kernel, rfl⟩
theorem d_X0_isGap_36 : decode cX0_isGap 36 = .ok (.ireturn, 1) := by decide +kernel
set_option maxHeartbeats 4000000 in
set_option maxRecDepth 20000 in
theorem c_X0_isGap {E : Ev} {n : Nat} {M : Mem} {m : Nat} {bd bp bc : Int → Int} {bk : Int} (hB : BoM E M m bd bp bk bc) (ho : BoOk bd bp bk bc) {r : Int} (h1 : -10 ≤ r ∧ r ≤ 1000000) : MT E yX0_isGap cX0_isGap 3 (some .boolean) 3 0 0 [.ref m, .int (iI r)] n M (PF (some (.int (iI (bI (gapC bp bc bk r))))) n (M)) := by
  refine MT.of (by decide) rfl (Nat.le_of_ble_eq_true rfl) ?_
  intro X g
  have g0 := g.1
  show V E X 0 0 n M 0 [some (.ref m), some (.int (iI r)), none] []
  have b0 := hB.h0
  have b1 := hB.h1
  have b4 := hB.h4
  have ho1 := ho.1.1
  have ha := aft_b (i := r) ho.1
  have hc := cOf_b (r := r) ho
  refine V.al0 g0 d_X0_isGap_0 ?_
  refine V.il1 g0 d_X0_isGap_1 ?_
  refine V.callVp g0 (c_X0_isEntry hB ho h1) ky_X0_isEntry ki_X0_isEntry ks2_X0_isEntry lk_X0_64 (by assumption) rfl rfl (Nat.le_of_ble_eq_true rfl) ⟨Nat.zero_le _, Nat.zero_le _⟩ rfl rfl (Nat.le_of_ble_eq_true rfl) d_X0_isGap_2 ?_
  refine V.ifeqB g0 d_X0_isGap_5 (fun c_5 => ?_) (fun c_5 => ?_)
  · skip
    have hd : dueC bp bc bk r = cOf bc bk r := if_neg c_5
    refine V.al0 g0 d_X0_isGap_13 ?_
    refine V.il1 g0 d_X0_isGap_14 ?_
    refine V.callVp g0 (c_X0_countryOf hB ho (by constructor <;> omega)) ky_X0_countryOf ki_X0_countryOf ks2_X0_countryOf lk_X0_67 (by assumption) rfl rfl (Nat.le_of_ble_eq_true rfl) ⟨Nat.zero_le _, Nat.zero_le _⟩ rfl rfl (Nat.le_of_ble_eq_true rfl) d_X0_isGap_15 ?_
    refine V.is2 g0 d_X0_isGap_18 ?_
    refine V.al0 g0 d_X0_isGap_19 ?_
    refine V.getf g0 d_X0_isGap_20 fl_X0_14 (by assumption) (by rfl) ?_
    refine V.il1 g0 d_X0_isGap_23 ?_
    refine V.callVp g0 (c_X4_placeAfter hB.tr ho.1 (by constructor <;> omega)) ky_X4_placeAfter ki_X4_placeAfter ks2_X4_placeAfter lk_X0_61 (by assumption) rfl rfl (Nat.le_of_ble_eq_true rfl) ⟨Nat.zero_le _, Nat.zero_le _⟩ rfl rfl (Nat.le_of_ble_eq_true rfl) d_X0_isGap_24 ?_
    refine V.il2 g0 d_X0_isGap_27 ?_
    refine V.icmpeq g0 d_X0_isGap_28 (by omega) (fun c_28 => ?_) (fun c_28 => ?_)
    · skip
      refine V.iconst g0 d_X0_isGap_35 ?_
      refine V.zret g d_X0_isGap_36 (by first | exact Or.inl rfl | exact Or.inr rfl | exact bI_01 _) (Nat.zero_le _) (Nat.zero_le _) ⟨congrArg (fun z => some (Value.int (iI z))) ?_, rfl, rfl⟩
      exact (bI_f (show ¬ gapC bp bc bk r from fun q => q (by rw [hd]; exact c_28))).symm
    · skip
      refine V.iconst g0 d_X0_isGap_31 ?_
      refine V.goto g0 d_X0_isGap_32 ?_
      refine V.zret g d_X0_isGap_36 (by first | exact Or.inl rfl | exact Or.inr rfl | exact bI_01 _) (Nat.zero_le _) (Nat.zero_le _) ⟨congrArg (fun z => some (Value.int (iI z))) ?_, rfl, rfl⟩
      exact (bI_t (show gapC bp bc bk r from fun q => c_28 (by rw [q, hd]))).symm
  · skip
    have hd : dueC bp bc bk r = -5 := if_pos c_5
    refine V.bipush g0 d_X0_isGap_8 (by decide) ?_
    refine V.goto g0 d_X0_isGap_10 ?_
    refine V.is2 g0 d_X0_isGap_18 ?_
    refine V.al0 g0 d_X0_isGap_19 ?_
    refine V.getf g0 d_X0_isGap_20 fl_X0_14 (by assumption) (by rfl) ?_
    refine V.il1 g0 d_X0_isGap_23 ?_
    refine V.callVp g0 (c_X4_placeAfter hB.tr ho.1 (by constructor <;> omega)) ky_X4_placeAfter ki_X4_placeAfter ks2_X4_placeAfter lk_X0_61 (by assumption) rfl rfl (Nat.le_of_ble_eq_true rfl) ⟨Nat.zero_le _, Nat.zero_le _⟩ rfl rfl (Nat.le_of_ble_eq_true rfl) d_X0_isGap_24 ?_
    refine V.il2 g0 d_X0_isGap_27 ?_
    refine V.icmpeq g0 d_X0_isGap_28 (by omega) (fun c_28 => ?_) (fun c_28 => ?_)
    · skip
      refine V.iconst g0 d_X0_isGap_35 ?_
      refine V.zret g d_X0_isGap_36 (by first | exact Or.inl rfl | exact Or.inr rfl | exact bI_01 _) (Nat.zero_le _) (Nat.zero_le _) ⟨congrArg (fun z => some (Value.int (iI z))) ?_, rfl, rfl⟩
      exact (bI_f (show ¬ gapC bp bc bk r from fun q => q (by rw [hd]; exact c_28))).symm
    · skip
      refine V.iconst g0 d_X0_isGap_31 ?_
      refine V.goto g0 d_X0_isGap_32 ?_
      refine V.zret g d_X0_isGap_36 (by first | exact Or.inl rfl | exact Or.inr rfl | exact bI_01 _) (Nat.zero_le _) (Nat.zero_le _) ⟨congrArg (fun z => some (Value.int (iI z))) ?_, rfl, rfl⟩
      exact (bI_t (show gapC bp bc bk r from fun q => c_28 (by rw [q, hd]))).symm

theorem d_X0_gaps_0 : Dc cX0_gaps 0 1 1 (.iconst 0) := ⟨by decide +kernel, rfl⟩
theorem d_X0_gaps_1 : Dc cX0_gaps 1 1 2 (.istore_n 1) := ⟨by decide +kernel, rfl⟩
theorem d_X0_gaps_2 : Dc cX0_gaps 2 1 3 (.iconst 0) := ⟨by decide +kernel, rfl⟩
theorem d_X0_gaps_3 : Dc cX0_gaps 3 1 4 (.istore_n 2) := ⟨by decide +kernel, rfl⟩
theorem d_X0_gaps_4 : Dc cX0_gaps 4 1 5 (.iload_n 2) := ⟨by decide +kernel, rfl⟩
theorem d_X0_gaps_5 : Dc cX0_gaps 5 1 6 (.aload_n 0) := ⟨by decide +kernel, rfl⟩
theorem d_X0_gaps_6 : Dc cX0_gaps 6 3 9 (.invokevirtual 42) := ⟨by decide +kernel, rfl⟩
theorem d_X0_gaps_9 : Dj cX0_gaps 9 12 29 (.if_icmp .ge) := ⟨20, by decide +kernel, rfl, by decide⟩
theorem d_X0_gaps_12 : Dc cX0_gaps 12 1 13 (.aload_n 0) := ⟨by decide +kernel, rfl⟩
theorem d_X0_gaps_13 : Dc cX0_gaps 13 1 14 (.iload_n 2) := ⟨by decide +kernel, rfl⟩
theorem d_X0_gaps_14 : Dc cX0_gaps 14 3 17 (.invokevirtual 70) := ⟨by decide +kernel, rfl⟩
theorem d_X0_gaps_17 : Dj cX0_gaps 17 20 23 (.ifCond .eq) := ⟨6, by decide +kernel, rfl, by decide⟩
theorem d_X0_gaps_20 : Dc cX0_gaps 20 3 23 (.iinc 1 1) := ⟨by decide +kernel, rfl⟩
theorem d_X0_gaps_23 : Dc cX0_gaps 23 3 26 (.iinc 2 1) := ⟨by decide +kernel, rfl⟩
theorem d_X0_gaps_26 : Dj cX0_gaps 26 29 4 .goto := ⟨(-22), by decide +kernel, rfl, by decide⟩
theorem d_X0_gaps_29 : Dc cX0_gaps 29 1 30 (.iload_n 1) := ⟨by decide +kernel, rfl⟩
theorem d_X0_gaps_30 : decode cX0_gaps 30 = .ok (.ireturn, 1) := by decide +kernel
set_option maxHeartbeats 4000000 in
set_option maxRecDepth 20000 in
theorem c_X0_gaps {E : Ev} {n : Nat} {M : Mem} {m : Nat} {bd bp bc : Int → Int} {bk : Int} (hB : BoM E M m bd bp bk bc) (ho : BoOk bd bp bk bc) : MT E yX0_gaps cX0_gaps 3 (some .int) 4 0 0 [.ref m] n M (PF (some (.int (iI (sumI (fun r => bI (gapC bp bc bk r)) bk.toNat)))) n (M)) := by
  refine MT.of (by decide) rfl (Nat.le_of_ble_eq_true rfl) ?_
  intro X g
  have g0 := g.1
  show V E X 0 0 n M 0 [some (.ref m), none, none] []
  have b0 := hB.h0
  have b1 := hB.h1
  have b4 := hB.h4
  have ho1 := ho.1.1
  refine V.iconst g0 d_X0_gaps_0 ?_
  refine V.is1 g0 d_X0_gaps_1 ?_
  refine V.iconst g0 d_X0_gaps_2 ?_
  refine V.is2 g0 d_X0_gaps_3 ?_
  have LP : ∀ (f i : Nat) (z : Int), i + f = bk.toNat → z = sumI (fun r => bI (gapC bp bc bk r)) i → V E X 0 0 n (M) 4 [some (.ref m), some (.int (iI z)), some (.int (iI (i : Int)))] [] := by
    intro f
    induction f using Nat.strongRecOn with
    | _ f ih =>
    intro i z hf hz
    refine V.il2 g0 d_X0_gaps_4 ?_
    refine V.al0 g0 d_X0_gaps_5 ?_
    refine V.callVp g0 (c_X0_stamps hB ho) ky_X0_stamps ki_X0_stamps ks2_X0_stamps lk_X0_42 (by assumption) rfl rfl (Nat.le_of_ble_eq_true rfl) ⟨Nat.zero_le _, Nat.zero_le _⟩ rfl rfl (Nat.le_of_ble_eq_true rfl) d_X0_gaps_6 ?_
    refine V.icmpge g0 d_X0_gaps_9 (by omega) (fun c_9 => ?_) (fun c_9 => ?_)
    · skip
      refine V.il1 g0 d_X0_gaps_29 ?_
      refine V.iret g d_X0_gaps_30 (Nat.zero_le _) (Nat.zero_le _) ⟨congrArg (fun z => some (Value.int (iI z))) ?_, rfl, rfl⟩
      rw [hz, show bk.toNat = i by omega]
    · skip
      refine V.al0 g0 d_X0_gaps_12 ?_
      refine V.il2 g0 d_X0_gaps_13 ?_
      refine V.callVp g0 (c_X0_isGap hB ho (by omega)) ky_X0_isGap ki_X0_isGap ks2_X0_isGap lk_X0_70 (by assumption) rfl rfl (Nat.le_of_ble_eq_true rfl) ⟨Nat.zero_le _, Nat.zero_le _⟩ rfl rfl (Nat.le_of_ble_eq_true rfl) d_X0_gaps_14 ?_
      refine V.ifeqB g0 d_X0_gaps_17 (fun c_17 => ?_) (fun c_17 => ?_)
      · skip
        refine V.inc2 g0 d_X0_gaps_23 ?_
        refine V.goto g0 d_X0_gaps_26 ?_
        exact ih (f - 1) (by omega) (i + 1) _ (by omega) (by rw [hz, sumI_s, bI_f c_17, Int.add_zero])
      · skip
        refine V.inc1 g0 d_X0_gaps_20 ?_
        refine V.inc2 g0 d_X0_gaps_23 ?_
        refine V.goto g0 d_X0_gaps_26 ?_
        exact ih (f - 1) (by omega) (i + 1) _ (by omega) (by rw [hz, sumI_s, bI_t c_17])
  exact LP bk.toNat 0 0 (by omega) rfl

theorem d_X0_begin_0 : Dc cX0_begin 0 1 1 (.aload_n 0) := ⟨by decide +kernel, rfl⟩
theorem d_X0_begin_1 : Dc cX0_begin 1 3 4 (.getfield 14) := ⟨by decide +kernel, rfl⟩
theorem d_X0_begin_4 : Dc cX0_begin 4 1 5 (.iload_n 1) := ⟨by decide +kernel, rfl⟩
theorem d_X0_begin_5 : Dc cX0_begin 5 1 6 (.iload_n 2) := ⟨by decide +kernel, rfl⟩
theorem d_X0_begin_6 : Dc cX0_begin 6 3 9 (.invokevirtual 34) := ⟨by decide +kernel, rfl⟩
theorem d_X0_begin_9 : decode cX0_begin 9 = .ok (.return_, 1) := by decide +kernel
set_option maxHeartbeats 4000000 in
set_option maxRecDepth 20000 in
theorem c_X0_begin {E : Ev} {n : Nat} {M : Mem} {m : Nat} {bd bp bc : Int → Int} {bk : Int} (hB : BoM E M m bd bp bk bc) {p d : Int} : MT E yX0_begin cX0_begin 3 none 1 0 0 [.ref m, .int (iI p), .int (iI d)] n M ((PF none n (boU E M m (upI bd 0 d) (upI bp 0 p) (0) (bc)))) := by
  refine MT.of (by decide) rfl (Nat.le_of_ble_eq_true rfl) ?_
  intro X g
  have g0 := g.1
  show V E X 0 0 n M 0 [some (.ref m), some (.int (iI p)), some (.int (iI d))] []
  refine V.eqM (bo_id hB).symm ?_
  refine V.al0 g0 d_X0_begin_0 ?_
  refine V.getf g0 d_X0_begin_1 fl_X0_14 (by first | exact bo_M.h0 | exact bo_M.h1 | exact bo_M.h4 | assumption) (by rfl) ?_
  refine V.il1 g0 d_X0_begin_4 ?_
  refine V.il2 g0 d_X0_begin_5 ?_
  refine V.callVf g0 (c_X4_begin bo_M.tr (by decide)) ky_X4_begin ki_X4_begin ks2_X4_begin lk_X0_34 (by first | exact bo_M.h0 | exact bo_M.h1 | exact bo_M.h4 | assumption) rfl rfl (Nat.le_of_ble_eq_true rfl) ⟨Nat.zero_le _, Nat.zero_le _⟩ rfl rfl (Nat.le_of_ble_eq_true rfl) d_X0_begin_6 ?_
  refine V.eqM bo_ut ?_
  refine V.vret g d_X0_begin_9 (Nat.zero_le _) (Nat.zero_le _) ?_
  exact ⟨rfl, rfl, rfl⟩

theorem d_X0_addStamp_0 : Dc cX0_addStamp 0 1 1 (.aload_n 0) := ⟨by decide +kernel, rfl⟩
theorem d_X0_addStamp_1 : Dc cX0_addStamp 1 3 4 (.invokevirtual 42) := ⟨by decide +kernel, rfl⟩
theorem d_X0_addStamp_4 : Dc cX0_addStamp 4 2 6 (.bipush 16) := ⟨by decide +kernel, rfl⟩
theorem d_X0_addStamp_6 : Dj cX0_addStamp 6 9 28 (.if_icmp .ge) := ⟨22, by decide +kernel, rfl, by decide⟩
theorem d_X0_addStamp_9 : Dc cX0_addStamp 9 1 10 (.aload_n 0) := ⟨by decide +kernel, rfl⟩
theorem d_X0_addStamp_10 : Dc cX0_addStamp 10 3 13 (.getfield 20) := ⟨by decide +kernel, rfl⟩
theorem d_X0_addStamp_13 : Dc cX0_addStamp 13 1 14 (.aload_n 0) := ⟨by decide +kernel, rfl⟩
theorem d_X0_addStamp_14 : Dc cX0_addStamp 14 3 17 (.invokevirtual 42) := ⟨by decide +kernel, rfl⟩
theorem d_X0_addStamp_17 : Dc cX0_addStamp 17 1 18 (.iload_n 1) := ⟨by decide +kernel, rfl⟩
theorem d_X0_addStamp_18 : Dc cX0_addStamp 18 1 19 .iastore := ⟨by decide +kernel, rfl⟩
theorem d_X0_addStamp_19 : Dc cX0_addStamp 19 1 20 (.aload_n 0) := ⟨by decide +kernel, rfl⟩
theorem d_X0_addStamp_20 : Dc cX0_addStamp 20 3 23 (.getfield 14) := ⟨by decide +kernel, rfl⟩
theorem d_X0_addStamp_23 : Dc cX0_addStamp 23 1 24 (.iload_n 2) := ⟨by decide +kernel, rfl⟩
theorem d_X0_addStamp_24 : Dc cX0_addStamp 24 1 25 (.iload_n 3) := ⟨by decide +kernel, rfl⟩
theorem d_X0_addStamp_25 : Dc cX0_addStamp 25 3 28 (.invokevirtual 46) := ⟨by decide +kernel, rfl⟩
theorem d_X0_addStamp_28 : decode cX0_addStamp 28 = .ok (.return_, 1) := by decide +kernel
set_option maxHeartbeats 4000000 in
set_option maxRecDepth 20000 in
theorem c_X0_addStamp {E : Ev} {n : Nat} {M : Mem} {m : Nat} {bd bp bc : Int → Int} {bk : Int} (hB : BoM E M m bd bp bk bc) (ho : BoOk bd bp bk bc) {c p d : Int} (hk : bk < 16) : MT E yX0_addStamp cX0_addStamp 4 none 1 0 0 [.ref m, .int (iI c), .int (iI p), .int (iI d)] n M ((PF none n (boU E M m (upI bd (bk + 1) d) (upI bp (bk + 1) p) (bk + 1) (upI bc bk c)))) := by
  refine MT.of (by decide) rfl (Nat.le_of_ble_eq_true rfl) ?_
  intro X g
  have g0 := g.1
  show V E X 0 0 n M 0 [some (.ref m), some (.int (iI c)), some (.int (iI p)), some (.int (iI d))] []
  have ho1 := ho.1.1
  refine V.eqM (bo_id hB).symm ?_
  refine V.al0 g0 d_X0_addStamp_0 ?_
  refine V.callVp g0 (c_X0_stamps bo_M ho) ky_X0_stamps ki_X0_stamps ks2_X0_stamps lk_X0_42 (by first | exact bo_M.h0 | exact bo_M.h1 | exact bo_M.h4 | assumption) rfl rfl (Nat.le_of_ble_eq_true rfl) ⟨Nat.zero_le _, Nat.zero_le _⟩ rfl rfl (Nat.le_of_ble_eq_true rfl) d_X0_addStamp_1 ?_
  refine V.bipush g0 d_X0_addStamp_4 (by decide) ?_
  refine V.icmpge g0 d_X0_addStamp_6 (by omega) (fun c_6 => ?_) (fun c_6 => ?_)
  · skip
    exfalso; omega
  · skip
    refine V.al0 g0 d_X0_addStamp_9 ?_
    refine V.getf g0 d_X0_addStamp_10 fl_X0_20 (by first | exact bo_M.h0 | exact bo_M.h1 | exact bo_M.h4 | assumption) (by rfl) ?_
    refine V.al0 g0 d_X0_addStamp_13 ?_
    refine V.callVp g0 (c_X0_stamps bo_M ho) ky_X0_stamps ki_X0_stamps ks2_X0_stamps lk_X0_42 (by first | exact bo_M.h0 | exact bo_M.h1 | exact bo_M.h4 | assumption) rfl rfl (Nat.le_of_ble_eq_true rfl) ⟨Nat.zero_le _, Nat.zero_le _⟩ rfl rfl (Nat.le_of_ble_eq_true rfl) d_X0_addStamp_14 ?_
    refine V.il1 g0 d_X0_addStamp_17 ?_
    refine V.iast g0 d_X0_addStamp_18 (by first | exact bo_M.h0 | exact bo_M.h1 | exact bo_M.h4 | assumption) (by omega) (by decide) ?_
    first | refine V.eqM bo_u4 ?_
    refine V.al0 g0 d_X0_addStamp_19 ?_
    refine V.getf g0 d_X0_addStamp_20 fl_X0_14 (by first | exact bo_M.h0 | exact bo_M.h1 | exact bo_M.h4 | assumption) (by rfl) ?_
    refine V.il2 g0 d_X0_addStamp_23 ?_
    refine V.il3 g0 d_X0_addStamp_24 ?_
    refine V.callVf g0 (c_X4_add bo_M.tr ho.1 (by omega)) ky_X4_add ki_X4_add ks2_X4_add lk_X0_46 (by first | exact bo_M.h0 | exact bo_M.h1 | exact bo_M.h4 | assumption) rfl rfl (Nat.le_of_ble_eq_true rfl) ⟨Nat.zero_le _, Nat.zero_le _⟩ rfl rfl (Nat.le_of_ble_eq_true rfl) d_X0_addStamp_25 ?_
    refine V.eqM bo_ut ?_
    refine V.vret g d_X0_addStamp_28 (Nat.zero_le _) (Nat.zero_le _) ?_
    exact ⟨rfl, rfl, rfl⟩

theorem d_X0_addExit_0 : Dc cX0_addExit 0 1 1 (.aload_n 0) := ⟨by decide +kernel, rfl⟩
theorem d_X0_addExit_1 : Dc cX0_addExit 1 1 2 (.iload_n 1) := ⟨by decide +kernel, rfl⟩
theorem d_X0_addExit_2 : Dc cX0_addExit 2 2 4 (.bipush (-5)) := ⟨by decide +kernel, rfl⟩
theorem d_X0_addExit_4 : Dc cX0_addExit 4 1 5 (.iload_n 2) := ⟨by decide +kernel, rfl⟩
theorem d_X0_addExit_5 : Dc cX0_addExit 5 3 8 (.invokevirtual 38) := ⟨by decide +kernel, rfl⟩
theorem d_X0_addExit_8 : decode cX0_addExit 8 = .ok (.return_, 1) := by decide +kernel
set_option maxHeartbeats 4000000 in
set_option maxRecDepth 20000 in
theorem c_X0_addExit {E : Ev} {n : Nat} {M : Mem} {m : Nat} {bd bp bc : Int → Int} {bk : Int} (hB : BoM E M m bd bp bk bc) (ho : BoOk bd bp bk bc) {c d : Int} (hk : bk < 16) : MT E yX0_addExit cX0_addExit 3 none 2 0 0 [.ref m, .int (iI c), .int (iI d)] n M ((PF none n (boU E M m (upI bd (bk + 1) d) (upI bp (bk + 1) (-5)) (bk + 1) (upI bc bk c)))) := by
  refine MT.of (by decide) rfl (Nat.le_of_ble_eq_true rfl) ?_
  intro X g
  have g0 := g.1
  show V E X 0 0 n M 0 [some (.ref m), some (.int (iI c)), some (.int (iI d))] []
  have b0 := hB.h0
  have b1 := hB.h1
  have b4 := hB.h4
  have ho1 := ho.1.1
  refine V.al0 g0 d_X0_addExit_0 ?_
  refine V.il1 g0 d_X0_addExit_1 ?_
  refine V.bipush g0 d_X0_addExit_2 (by decide) ?_
  refine V.il2 g0 d_X0_addExit_4 ?_
  refine V.callVf g0 (c_X0_addStamp hB ho hk) ky_X0_addStamp ki_X0_addStamp ks2_X0_addStamp lk_X0_38 (by assumption) rfl rfl (Nat.le_of_ble_eq_true rfl) ⟨Nat.zero_le _, Nat.zero_le _⟩ rfl rfl (Nat.le_of_ble_eq_true rfl) d_X0_addExit_5 ?_
  refine V.vret g d_X0_addExit_8 (Nat.zero_le _) (Nat.zero_le _) ?_
  exact ⟨rfl, rfl, rfl⟩

theorem d_X0_addEntry_0 : Dc cX0_addEntry 0 1 1 (.aload_n 0) := ⟨by decide +kernel, rfl⟩
theorem d_X0_addEntry_1 : Dc cX0_addEntry 1 1 2 (.iload_n 1) := ⟨by decide +kernel, rfl⟩
theorem d_X0_addEntry_2 : Dc cX0_addEntry 2 1 3 (.iload_n 1) := ⟨by decide +kernel, rfl⟩
theorem d_X0_addEntry_3 : Dc cX0_addEntry 3 1 4 (.iload_n 2) := ⟨by decide +kernel, rfl⟩
theorem d_X0_addEntry_4 : Dc cX0_addEntry 4 3 7 (.invokevirtual 38) := ⟨by decide +kernel, rfl⟩
theorem d_X0_addEntry_7 : decode cX0_addEntry 7 = .ok (.return_, 1) := by decide +kernel
set_option maxHeartbeats 4000000 in
set_option maxRecDepth 20000 in
theorem c_X0_addEntry {E : Ev} {n : Nat} {M : Mem} {m : Nat} {bd bp bc : Int → Int} {bk : Int} (hB : BoM E M m bd bp bk bc) (ho : BoOk bd bp bk bc) {c d : Int} (hk : bk < 16) : MT E yX0_addEntry cX0_addEntry 3 none 2 0 0 [.ref m, .int (iI c), .int (iI d)] n M ((PF none n (boU E M m (upI bd (bk + 1) d) (upI bp (bk + 1) c) (bk + 1) (upI bc bk c)))) := by
  refine MT.of (by decide) rfl (Nat.le_of_ble_eq_true rfl) ?_
  intro X g
  have g0 := g.1
  show V E X 0 0 n M 0 [some (.ref m), some (.int (iI c)), some (.int (iI d))] []
  have b0 := hB.h0
  have b1 := hB.h1
  have b4 := hB.h4
  have ho1 := ho.1.1
  refine V.al0 g0 d_X0_addEntry_0 ?_
  refine V.il1 g0 d_X0_addEntry_1 ?_
  refine V.il1 g0 d_X0_addEntry_2 ?_
  refine V.il2 g0 d_X0_addEntry_3 ?_
  refine V.callVf g0 (c_X0_addStamp hB ho hk) ky_X0_addStamp ki_X0_addStamp ks2_X0_addStamp lk_X0_38 (by assumption) rfl rfl (Nat.le_of_ble_eq_true rfl) ⟨Nat.zero_le _, Nat.zero_le _⟩ rfl rfl (Nat.le_of_ble_eq_true rfl) d_X0_addEntry_4 ?_
  refine V.vret g d_X0_addEntry_7 (Nat.zero_le _) (Nat.zero_le _) ?_
  exact ⟨rfl, rfl, rfl⟩

theorem d_X0_copyFrom_0 : Dc cX0_copyFrom 0 1 1 (.aload_n 0) := ⟨by decide +kernel, rfl⟩
theorem d_X0_copyFrom_1 : Dc cX0_copyFrom 1 3 4 (.getfield 14) := ⟨by decide +kernel, rfl⟩
theorem d_X0_copyFrom_4 : Dc cX0_copyFrom 4 1 5 (.aload_n 1) := ⟨by decide +kernel, rfl⟩
theorem d_X0_copyFrom_5 : Dc cX0_copyFrom 5 3 8 (.getfield 14) := ⟨by decide +kernel, rfl⟩
theorem d_X0_copyFrom_8 : Dc cX0_copyFrom 8 3 11 (.invokevirtual 24) := ⟨by decide +kernel, rfl⟩
theorem d_X0_copyFrom_11 : Dc cX0_copyFrom 11 1 12 (.aload_n 1) := ⟨by decide +kernel, rfl⟩
theorem d_X0_copyFrom_12 : Dc cX0_copyFrom 12 3 15 (.getfield 20) := ⟨by decide +kernel, rfl⟩
theorem d_X0_copyFrom_15 : Dc cX0_copyFrom 15 1 16 (.iconst 0) := ⟨by decide +kernel, rfl⟩
theorem d_X0_copyFrom_16 : Dc cX0_copyFrom 16 1 17 (.aload_n 0) := ⟨by decide +kernel, rfl⟩
theorem d_X0_copyFrom_17 : Dc cX0_copyFrom 17 3 20 (.getfield 20) := ⟨by decide +kernel, rfl⟩
theorem d_X0_copyFrom_20 : Dc cX0_copyFrom 20 1 21 (.iconst 0) := ⟨by decide +kernel, rfl⟩
theorem d_X0_copyFrom_21 : Dc cX0_copyFrom 21 2 23 (.bipush 16) := ⟨by decide +kernel, rfl⟩
theorem d_X0_copyFrom_23 : Dc cX0_copyFrom 23 3 26 (.invokestatic 28) := ⟨by decide +kernel, rfl⟩
theorem d_X0_copyFrom_26 : decode cX0_copyFrom 26 = .ok (.return_, 1) := by decide +kernel
set_option maxHeartbeats 4000000 in
set_option maxRecDepth 20000 in
theorem c_X0_copyFrom {E : Ev} {n : Nat} {M : Mem} {m b : Nat} {bd bp bc bd2 bp2 bc2 : Int → Int} {bk bk2 : Int} (hB : BoM E M m bd bp bk bc) (hC : BoM E M b bd2 bp2 bk2 bc2) (hk : 0 ≤ bk2 ∧ bk2 < 17) (hd : b + 5 ≤ m ∨ m + 5 ≤ b) : MT E yX0_copyFrom cX0_copyFrom 2 none 3 0 0 [.ref m, .ref b] n M ((PF none n (boU E M m (cp0 bd2 bd (bk2 + 1)) (cp0 bp2 bp (bk2 + 1)) (bk2) (cp0 bc2 bc 16)))) := by
  refine MT.of (by decide) rfl (Nat.le_of_ble_eq_true rfl) ?_
  intro X g
  have g0 := g.1
  show V E X 0 0 n M 0 [some (.ref m), some (.ref b)] []
  have c0 : boU E M m bd bp bk bc b = .inr (0, [.ref (b + 1), .ref (b + 4)]) := (ov_n (by omega)).trans hC.h0
  have ct : TrM E (boU E M m bd bp bk bc) (b + 1) 17 bd2 bp2 bk2 := Bk.fr hC.tr (fun q h1 h2 => ov_n (by omega))
  have c3 : boU E M m (cp0 bd2 bd (bk2 + 1)) (cp0 bp2 bp (bk2 + 1)) bk2 bc b = .inr (0, [.ref (b + 1), .ref (b + 4)]) := (ov_n (by omega)).trans hC.h0
  have c4 : boU E M m (cp0 bd2 bd (bk2 + 1)) (cp0 bp2 bp (bk2 + 1)) bk2 bc (b + 4) = ia E 16 bc2 := (ov_n (by omega)).trans hC.h4
  refine V.eqM (bo_id hB).symm ?_
  refine V.al0 g0 d_X0_copyFrom_0 ?_
  refine V.getf g0 d_X0_copyFrom_1 fl_X0_14 (by first | exact bo_M.h0 | exact bo_M.h1 | exact bo_M.h4 | assumption) (by rfl) ?_
  refine V.al1 g0 d_X0_copyFrom_4 ?_
  refine V.getf g0 d_X0_copyFrom_5 fl_X0_14 (by first | exact bo_M.h0 | exact bo_M.h1 | exact bo_M.h4 | assumption) (by rfl) ?_
  refine V.callVf g0 (c_X4_copyFrom bo_M.tr ct hk (by decide) (by omega)) ky_X4_copyFrom ki_X4_copyFrom ks2_X4_copyFrom lk_X0_24 (by first | exact bo_M.h0 | exact bo_M.h1 | exact bo_M.h4 | assumption) rfl rfl (Nat.le_of_ble_eq_true rfl) ⟨Nat.zero_le _, Nat.zero_le _⟩ rfl rfl (Nat.le_of_ble_eq_true rfl) d_X0_copyFrom_8 ?_
  refine V.eqM bo_ut ?_
  refine V.al1 g0 d_X0_copyFrom_11 ?_
  refine V.getf g0 d_X0_copyFrom_12 fl_X0_20 (by first | exact bo_M.h0 | exact bo_M.h1 | exact bo_M.h4 | assumption) (by rfl) ?_
  refine V.iconst g0 d_X0_copyFrom_15 ?_
  refine V.al0 g0 d_X0_copyFrom_16 ?_
  refine V.getf g0 d_X0_copyFrom_17 fl_X0_20 (by first | exact bo_M.h0 | exact bo_M.h1 | exact bo_M.h4 | assumption) (by rfl) ?_
  refine V.iconst g0 d_X0_copyFrom_20 ?_
  refine V.bipush g0 d_X0_copyFrom_21 (by decide) ?_
  refine V.acopy g0 d_X0_copyFrom_23 lk_X0_28 cp_nat cp_st cp_ini c4 bo_M.h4 (by omega) (by omega) (by omega) (by decide) (Nat.le_of_ble_eq_true rfl) ?_
  refine V.eqM bo_u4 ?_
  refine V.vret g d_X0_copyFrom_26 (Nat.zero_le _) (Nat.zero_le _) ?_
  exact ⟨rfl, rfl, rfl⟩
