theorem d_X6_isWithin_0 : Dc cX6_isWithin 0 1 1 (.iload_n 0) := ⟨by decide +kernel, rfl⟩
theorem d_X6_isWithin_1 : Dc cX6_isWithin 1 1 2 (.iload_n 1) := ⟨by decide +kernel, rfl⟩
theorem d_X6_isWithin_2 : Dj cX6_isWithin 2 5 14 (.if_icmp .lt) := ⟨12, by decide +kernel, rfl, by decide⟩
theorem d_X6_isWithin_5 : Dc cX6_isWithin 5 1 6 (.iload_n 0) := ⟨by decide +kernel, rfl⟩
theorem d_X6_isWithin_6 : Dc cX6_isWithin 6 1 7 (.iload_n 2) := ⟨by decide +kernel, rfl⟩
theorem d_X6_isWithin_7 : Dj cX6_isWithin 7 10 14 (.if_icmp .gt) := ⟨7, by decide +kernel, rfl, by decide⟩
theorem d_X6_isWithin_10 : Dc cX6_isWithin 10 1 11 (.iconst 1) := ⟨by decide +kernel, rfl⟩
theorem d_X6_isWithin_11 : Dj cX6_isWithin 11 14 15 .goto := ⟨4, by decide +kernel, rfl, by decide⟩
theorem d_X6_isWithin_14 : Dc cX6_isWithin 14 1 15 (.iconst 0) := ⟨by decide +kernel, rfl⟩
theorem d_X6_isWithin_15 : decode cX6_isWithin 15 = .ok (.ireturn, 1) := by decide +kernel
set_option maxHeartbeats 4000000 in
set_option maxRecDepth 20000 in
theorem c_X6_isWithin {E : Ev} {n : Nat} {M : Mem} {v lo hi : Int} (h1 : rg v) (h2 : rg lo) (h3 : rg hi) : MT E yX6_isWithin cX6_isWithin 3 (some .boolean) 0 0 0 [.int (iI v), .int (iI lo), .int (iI hi)] n M (PF (some (.int (iI (bI (lo ≤ v ∧ v ≤ hi))))) n (M)) := by
  refine MT.of (by decide) rfl (Nat.le_of_ble_eq_true rfl) ?_
  intro X g
  have g0 := g.1
  show V E X 0 0 n M 0 [some (.int (iI v)), some (.int (iI lo)), some (.int (iI hi))] []
  refine V.il0 g0 d_X6_isWithin_0 ?_
  refine V.il1 g0 d_X6_isWithin_1 ?_
  refine V.icmplt g0 d_X6_isWithin_2 (by omega) (fun c_2 => ?_) (fun c_2 => ?_)
  · skip
    refine V.iconst g0 d_X6_isWithin_14 ?_
    refine V.zret g d_X6_isWithin_15 (by first | exact Or.inl rfl | exact Or.inr rfl | exact bI_01 _) (Nat.zero_le _) (Nat.zero_le _) ⟨congrArg (fun z => some (Value.int (iI z))) ?_, rfl, rfl⟩
    exact (bI_f (by omega)).symm
  · skip
    refine V.il0 g0 d_X6_isWithin_5 ?_
    refine V.il2 g0 d_X6_isWithin_6 ?_
    refine V.icmpgt g0 d_X6_isWithin_7 (by omega) (fun c_7 => ?_) (fun c_7 => ?_)
    · skip
      refine V.iconst g0 d_X6_isWithin_14 ?_
      refine V.zret g d_X6_isWithin_15 (by first | exact Or.inl rfl | exact Or.inr rfl | exact bI_01 _) (Nat.zero_le _) (Nat.zero_le _) ⟨congrArg (fun z => some (Value.int (iI z))) ?_, rfl, rfl⟩
      exact (bI_f (by omega)).symm
    · skip
      refine V.iconst g0 d_X6_isWithin_10 ?_
      refine V.goto g0 d_X6_isWithin_11 ?_
      refine V.zret g d_X6_isWithin_15 (by first | exact Or.inl rfl | exact Or.inr rfl | exact bI_01 _) (Nat.zero_le _) (Nat.zero_le _) ⟨congrArg (fun z => some (Value.int (iI z))) ?_, rfl, rfl⟩
      exact (bI_t ⟨by omega, by omega⟩).symm

theorem d_X6_isCountry_0 : Dc cX6_isCountry 0 1 1 (.iload_n 0) := ⟨by decide +kernel, rfl⟩
theorem d_X6_isCountry_1 : Dc cX6_isCountry 1 1 2 (.iconst 0) := ⟨by decide +kernel, rfl⟩
theorem d_X6_isCountry_2 : Dc cX6_isCountry 2 1 3 (.iconst 5) := ⟨by decide +kernel, rfl⟩
theorem d_X6_isCountry_3 : Dc cX6_isCountry 3 3 6 (.invokestatic 92) := ⟨by decide +kernel, rfl⟩
theorem d_X6_isCountry_6 : decode cX6_isCountry 6 = .ok (.ireturn, 1) := by decide +kernel
set_option maxHeartbeats 4000000 in
set_option maxRecDepth 20000 in
theorem c_X6_isCountry {E : Ev} {n : Nat} {M : Mem} {v : Int} (h1 : rg v) : MT E yX6_isCountry cX6_isCountry 1 (some .boolean) 1 0 0 [.int (iI v)] n M (PF (some (.int (iI (bI (0 ≤ v ∧ v ≤ 5))))) n (M)) := by
  refine MT.of (by decide) rfl (Nat.le_of_ble_eq_true rfl) ?_
  intro X g
  have g0 := g.1
  show V E X 0 0 n M 0 [some (.int (iI v))] []
  refine V.il0 g0 d_X6_isCountry_0 ?_
  refine V.iconst g0 d_X6_isCountry_1 ?_
  refine V.iconst g0 d_X6_isCountry_2 ?_
  refine V.callSp g0 (c_X6_isWithin h1 (by decide) (by decide)) ky_X6_isWithin ks_X6_isWithin lk_X6_92 (Nat.le_of_ble_eq_true rfl) ⟨Nat.zero_le _, Nat.zero_le _⟩ rfl rfl (Nat.le_of_ble_eq_true rfl) d_X6_isCountry_3 ?_
  refine V.zret g d_X6_isCountry_6 (by first | exact Or.inl rfl | exact Or.inr rfl | exact bI_01 _) (Nat.zero_le _) (Nat.zero_le _) ⟨congrArg (fun z => some (Value.int (iI z))) ?_, rfl, rfl⟩
  rfl

theorem d_X6_isSpan_0 : Dc cX6_isSpan 0 1 1 (.iload_n 0) := ⟨by decide +kernel, rfl⟩
theorem d_X6_isSpan_1 : Dc cX6_isSpan 1 1 2 (.iconst 0) := ⟨by decide +kernel, rfl⟩
theorem d_X6_isSpan_2 : Dc cX6_isSpan 2 3 5 (.sipush 999) := ⟨by decide +kernel, rfl⟩
theorem d_X6_isSpan_5 : Dc cX6_isSpan 5 3 8 (.invokestatic 92) := ⟨by decide +kernel, rfl⟩
theorem d_X6_isSpan_8 : Dj cX6_isSpan 8 11 26 (.ifCond .eq) := ⟨18, by decide +kernel, rfl, by decide⟩
theorem d_X6_isSpan_11 : Dc cX6_isSpan 11 1 12 (.iload_n 1) := ⟨by decide +kernel, rfl⟩
theorem d_X6_isSpan_12 : Dc cX6_isSpan 12 1 13 (.iload_n 0) := ⟨by decide +kernel, rfl⟩
theorem d_X6_isSpan_13 : Dc cX6_isSpan 13 3 16 (.sipush 999) := ⟨by decide +kernel, rfl⟩
theorem d_X6_isSpan_16 : Dc cX6_isSpan 16 3 19 (.invokestatic 92) := ⟨by decide +kernel, rfl⟩
theorem d_X6_isSpan_19 : Dj cX6_isSpan 19 22 26 (.ifCond .eq) := ⟨7, by decide +kernel, rfl, by decide⟩
theorem d_X6_isSpan_22 : Dc cX6_isSpan 22 1 23 (.iconst 1) := ⟨by decide +kernel, rfl⟩
theorem d_X6_isSpan_23 : Dj cX6_isSpan 23 26 27 .goto := ⟨4, by decide +kernel, rfl, by decide⟩
theorem d_X6_isSpan_26 : Dc cX6_isSpan 26 1 27 (.iconst 0) := ⟨by decide +kernel, rfl⟩
theorem d_X6_isSpan_27 : decode cX6_isSpan 27 = .ok (.ireturn, 1) := by decide +kernel
set_option maxHeartbeats 4000000 in
set_option maxRecDepth 20000 in
theorem c_X6_isSpan {E : Ev} {n : Nat} {M : Mem} {x u : Int} (h1 : rg x) (h2 : rg u) : MT E yX6_isSpan cX6_isSpan 2 (some .boolean) 1 0 0 [.int (iI x), .int (iI u)] n M (PF (some (.int (iI (bI ((0 ≤ x ∧ x ≤ 999) ∧ (x ≤ u ∧ u ≤ 999)))))) n (M)) := by
  refine MT.of (by decide) rfl (Nat.le_of_ble_eq_true rfl) ?_
  intro X g
  have g0 := g.1
  show V E X 0 0 n M 0 [some (.int (iI x)), some (.int (iI u))] []
  refine V.il0 g0 d_X6_isSpan_0 ?_
  refine V.iconst g0 d_X6_isSpan_1 ?_
  refine V.sipush g0 d_X6_isSpan_2 (by decide) ?_
  refine V.callSp g0 (c_X6_isWithin h1 (by decide) (by decide)) ky_X6_isWithin ks_X6_isWithin lk_X6_92 (Nat.le_of_ble_eq_true rfl) ⟨Nat.zero_le _, Nat.zero_le _⟩ rfl rfl (Nat.le_of_ble_eq_true rfl) d_X6_isSpan_5 ?_
  refine V.ifeqB g0 d_X6_isSpan_8 (fun c_8 => ?_) (fun c_8 => ?_)
  · skip
    refine V.iconst g0 d_X6_isSpan_26 ?_
    refine V.zret g d_X6_isSpan_27 (by first | exact Or.inl rfl | exact Or.inr rfl | exact bI_01 _) (Nat.zero_le _) (Nat.zero_le _) ⟨congrArg (fun z => some (Value.int (iI z))) ?_, rfl, rfl⟩
    exact (bI_f (fun q => c_8 q.1)).symm
  · skip
    refine V.il1 g0 d_X6_isSpan_11 ?_
    refine V.il0 g0 d_X6_isSpan_12 ?_
    refine V.sipush g0 d_X6_isSpan_13 (by decide) ?_
    refine V.callSp g0 (c_X6_isWithin h2 h1 (by decide)) ky_X6_isWithin ks_X6_isWithin lk_X6_92 (Nat.le_of_ble_eq_true rfl) ⟨Nat.zero_le _, Nat.zero_le _⟩ rfl rfl (Nat.le_of_ble_eq_true rfl) d_X6_isSpan_16 ?_
    refine V.ifeqB g0 d_X6_isSpan_19 (fun c_19 => ?_) (fun c_19 => ?_)
    · skip
      refine V.iconst g0 d_X6_isSpan_26 ?_
      refine V.zret g d_X6_isSpan_27 (by first | exact Or.inl rfl | exact Or.inr rfl | exact bI_01 _) (Nat.zero_le _) (Nat.zero_le _) ⟨congrArg (fun z => some (Value.int (iI z))) ?_, rfl, rfl⟩
      exact (bI_f (fun q => c_19 q.2)).symm
    · skip
      refine V.iconst g0 d_X6_isSpan_22 ?_
      refine V.goto g0 d_X6_isSpan_23 ?_
      refine V.zret g d_X6_isSpan_27 (by first | exact Or.inl rfl | exact Or.inr rfl | exact bI_01 _) (Nat.zero_le _) (Nat.zero_le _) ⟨congrArg (fun z => some (Value.int (iI z))) ?_, rfl, rfl⟩
      exact (bI_t ⟨c_8, c_19⟩).symm

theorem d_J9_max_7cf53_0 : Dc cJ9_max_7cf53 0 1 1 (.iload_n 0) := ⟨by decide +kernel, rfl⟩
theorem d_J9_max_7cf53_1 : Dc cJ9_max_7cf53 1 1 2 (.iload_n 1) := ⟨by decide +kernel, rfl⟩
theorem d_J9_max_7cf53_2 : Dj cJ9_max_7cf53 2 5 9 (.if_icmp .lt) := ⟨7, by decide +kernel, rfl, by decide⟩
theorem d_J9_max_7cf53_5 : Dc cJ9_max_7cf53 5 1 6 (.iload_n 0) := ⟨by decide +kernel, rfl⟩
theorem d_J9_max_7cf53_6 : Dj cJ9_max_7cf53 6 9 10 .goto := ⟨4, by decide +kernel, rfl, by decide⟩
theorem d_J9_max_7cf53_9 : Dc cJ9_max_7cf53 9 1 10 (.iload_n 1) := ⟨by decide +kernel, rfl⟩
theorem d_J9_max_7cf53_10 : decode cJ9_max_7cf53 10 = .ok (.ireturn, 1) := by decide +kernel
set_option maxHeartbeats 4000000 in
set_option maxRecDepth 20000 in
theorem c_J9_max_7cf53 {E : Ev} {n : Nat} {M : Mem} {x y : Int} (h1 : rg x) (h2 : rg y) : MT E yJ9_max_7cf53 cJ9_max_7cf53 2 (some .int) 0 0 0 [.int (iI x), .int (iI y)] n M (PF (some (.int (iI (max x y)))) n (M)) := by
  refine MT.ofJ (by decide +kernel) rfl (Nat.le_of_ble_eq_true rfl) ?_
  intro X g
  have g0 := g.1
  show V E X 0 0 n M 0 [some (.int (iI x)), some (.int (iI y))] []
  refine V.il0 g0 d_J9_max_7cf53_0 ?_
  refine V.il1 g0 d_J9_max_7cf53_1 ?_
  refine V.icmplt g0 d_J9_max_7cf53_2 (by omega) (fun c_2 => ?_) (fun c_2 => ?_)
  · skip
    refine V.il1 g0 d_J9_max_7cf53_9 ?_
    refine V.iret g d_J9_max_7cf53_10 (Nat.zero_le _) (Nat.zero_le _) ⟨congrArg (fun z => some (Value.int (iI z))) ?_, rfl, rfl⟩
    omega
  · skip
    refine V.il0 g0 d_J9_max_7cf53_5 ?_
    refine V.goto g0 d_J9_max_7cf53_6 ?_
    refine V.iret g d_J9_max_7cf53_10 (Nat.zero_le _) (Nat.zero_le _) ⟨congrArg (fun z => some (Value.int (iI z))) ?_, rfl, rfl⟩
    omega

theorem d_J9_min_7cf53_0 : Dc cJ9_min_7cf53 0 1 1 (.iload_n 0) := ⟨by decide +kernel, rfl⟩
theorem d_J9_min_7cf53_1 : Dc cJ9_min_7cf53 1 1 2 (.iload_n 1) := ⟨by decide +kernel, rfl⟩
theorem d_J9_min_7cf53_2 : Dj cJ9_min_7cf53 2 5 9 (.if_icmp .gt) := ⟨7, by decide +kernel, rfl, by decide⟩
theorem d_J9_min_7cf53_5 : Dc cJ9_min_7cf53 5 1 6 (.iload_n 0) := ⟨by decide +kernel, rfl⟩
theorem d_J9_min_7cf53_6 : Dj cJ9_min_7cf53 6 9 10 .goto := ⟨4, by decide +kernel, rfl, by decide⟩
theorem d_J9_min_7cf53_9 : Dc cJ9_min_7cf53 9 1 10 (.iload_n 1) := ⟨by decide +kernel, rfl⟩
theorem d_J9_min_7cf53_10 : decode cJ9_min_7cf53 10 = .ok (.ireturn, 1) := by decide +kernel
set_option maxHeartbeats 4000000 in
set_option maxRecDepth 20000 in
theorem c_J9_min_7cf53 {E : Ev} {n : Nat} {M : Mem} {x y : Int} (h1 : rg x) (h2 : rg y) : MT E yJ9_min_7cf53 cJ9_min_7cf53 2 (some .int) 0 0 0 [.int (iI x), .int (iI y)] n M (PF (some (.int (iI (min x y)))) n (M)) := by
  refine MT.ofJ (by decide +kernel) rfl (Nat.le_of_ble_eq_true rfl) ?_
  intro X g
  have g0 := g.1
  show V E X 0 0 n M 0 [some (.int (iI x)), some (.int (iI y))] []
  refine V.il0 g0 d_J9_min_7cf53_0 ?_
  refine V.il1 g0 d_J9_min_7cf53_1 ?_
  refine V.icmpgt g0 d_J9_min_7cf53_2 (by omega) (fun c_2 => ?_) (fun c_2 => ?_)
  · skip
    refine V.il1 g0 d_J9_min_7cf53_9 ?_
    refine V.iret g d_J9_min_7cf53_10 (Nat.zero_le _) (Nat.zero_le _) ⟨congrArg (fun z => some (Value.int (iI z))) ?_, rfl, rfl⟩
    omega
  · skip
    refine V.il0 g0 d_J9_min_7cf53_5 ?_
    refine V.goto g0 d_J9_min_7cf53_6 ?_
    refine V.iret g d_J9_min_7cf53_10 (Nat.zero_le _) (Nat.zero_le _) ⟨congrArg (fun z => some (Value.int (iI z))) ?_, rfl, rfl⟩
    omega

theorem d_X4_lastPlace_0 : Dc cX4_lastPlace 0 1 1 (.aload_n 0) := ⟨by decide +kernel, rfl⟩
theorem d_X4_lastPlace_1 : Dc cX4_lastPlace 1 3 4 (.getfield 21) := ⟨by decide +kernel, rfl⟩
theorem d_X4_lastPlace_4 : Dc cX4_lastPlace 4 1 5 (.aload_n 0) := ⟨by decide +kernel, rfl⟩
theorem d_X4_lastPlace_5 : Dc cX4_lastPlace 5 3 8 (.getfield 24) := ⟨by decide +kernel, rfl⟩
theorem d_X4_lastPlace_8 : Dc cX4_lastPlace 8 1 9 .iaload := ⟨by decide +kernel, rfl⟩
theorem d_X4_lastPlace_9 : decode cX4_lastPlace 9 = .ok (.ireturn, 1) := by decide +kernel
set_option maxHeartbeats 4000000 in
set_option maxRecDepth 20000 in
theorem c_X4_lastPlace0 {E : Ev} {n : Nat} {M : Mem} {m N : Nat} {dy pl : Int → Int} {k : Int} (hT : TrM E M m N dy pl k) (hN : N < 100) (hk : 0 ≤ k ∧ k < N) : MT E yX4_lastPlace cX4_lastPlace 1 (some .int) 0 0 0 [.ref m] n M (PF (some (.int (iI (pl k)))) n (M)) := by
  refine MT.of (by decide) rfl (Nat.le_of_ble_eq_true rfl) ?_
  intro X g
  have g0 := g.1
  show V E X 0 0 n M 0 [some (.ref m)] []
  have t0 := hT.h0
  have t2 := hT.h2
  refine V.al0 g0 d_X4_lastPlace_0 ?_
  refine V.getf g0 d_X4_lastPlace_1 fl_X4_21 (by assumption) (by rfl) ?_
  refine V.al0 g0 d_X4_lastPlace_4 ?_
  refine V.getf g0 d_X4_lastPlace_5 fl_X4_24 (by assumption) (by rfl) ?_
  refine V.iald g0 d_X4_lastPlace_8 (by assumption) (by omega) (by omega) ?_
  refine V.iret g d_X4_lastPlace_9 (Nat.zero_le _) (Nat.zero_le _) ⟨congrArg (fun z => some (Value.int (iI z))) ?_, rfl, rfl⟩
  rfl

set_option maxHeartbeats 4000000 in
set_option maxRecDepth 20000 in
theorem c_X4_lastPlace {E : Ev} {n : Nat} {M : Mem} {m N : Nat} {dy pl : Int → Int} {k : Int} (hT : TrM E M m N dy pl k) (ho : TrOk N dy pl k) : MT E yX4_lastPlace cX4_lastPlace 1 (some .int) 0 0 0 [.ref m] n M (PF (some (.int (iI (pl k)))) n (M)) := by
  refine MT.of (by decide) rfl (Nat.le_of_ble_eq_true rfl) ?_
  intro X g
  have g0 := g.1
  show V E X 0 0 n M 0 [some (.ref m)] []
  have t0 := hT.h0
  have t1 := hT.h1
  have t2 := hT.h2
  have ho1 := ho.1
  refine V.al0 g0 d_X4_lastPlace_0 ?_
  refine V.getf g0 d_X4_lastPlace_1 fl_X4_21 (by assumption) (by rfl) ?_
  refine V.al0 g0 d_X4_lastPlace_4 ?_
  refine V.getf g0 d_X4_lastPlace_5 fl_X4_24 (by assumption) (by rfl) ?_
  refine V.iald g0 d_X4_lastPlace_8 (by assumption) (by omega) (by omega) ?_
  refine V.iret g d_X4_lastPlace_9 (Nat.zero_le _) (Nat.zero_le _) ⟨congrArg (fun z => some (Value.int (iI z))) ?_, rfl, rfl⟩
  rfl

theorem d_X4_placeAfter_0 : Dc cX4_placeAfter 0 1 1 (.iload_n 1) := ⟨by decide +kernel, rfl⟩
theorem d_X4_placeAfter_1 : Dc cX4_placeAfter 1 1 2 (.iconst 0) := ⟨by decide +kernel, rfl⟩
theorem d_X4_placeAfter_2 : Dc cX4_placeAfter 2 1 3 (.aload_n 0) := ⟨by decide +kernel, rfl⟩
theorem d_X4_placeAfter_3 : Dc cX4_placeAfter 3 3 6 (.getfield 24) := ⟨by decide +kernel, rfl⟩
theorem d_X4_placeAfter_6 : Dc cX4_placeAfter 6 3 9 (.invokestatic 37) := ⟨by decide +kernel, rfl⟩
theorem d_X4_placeAfter_9 : Dj cX4_placeAfter 9 12 21 (.ifCond .eq) := ⟨12, by decide +kernel, rfl, by decide⟩
theorem d_X4_placeAfter_12 : Dc cX4_placeAfter 12 1 13 (.aload_n 0) := ⟨by decide +kernel, rfl⟩
theorem d_X4_placeAfter_13 : Dc cX4_placeAfter 13 3 16 (.getfield 21) := ⟨by decide +kernel, rfl⟩
theorem d_X4_placeAfter_16 : Dc cX4_placeAfter 16 1 17 (.iload_n 1) := ⟨by decide +kernel, rfl⟩
theorem d_X4_placeAfter_17 : Dc cX4_placeAfter 17 1 18 .iaload := ⟨by decide +kernel, rfl⟩
theorem d_X4_placeAfter_18 : Dj cX4_placeAfter 18 21 23 .goto := ⟨5, by decide +kernel, rfl, by decide⟩
theorem d_X4_placeAfter_21 : Dc cX4_placeAfter 21 2 23 (.bipush (-5)) := ⟨by decide +kernel, rfl⟩
theorem d_X4_placeAfter_23 : decode cX4_placeAfter 23 = .ok (.ireturn, 1) := by decide +kernel
set_option maxHeartbeats 4000000 in
set_option maxRecDepth 20000 in
theorem c_X4_placeAfter {E : Ev} {n : Nat} {M : Mem} {m N : Nat} {dy pl : Int → Int} {k : Int} (hT : TrM E M m N dy pl k) (ho : TrOk N dy pl k) {i : Int} (h1 : rg i) : MT E yX4_placeAfter cX4_placeAfter 2 (some .int) 1 0 0 [.ref m, .int (iI i)] n M (PF (some (.int (iI (aft pl k i)))) n (M)) := by
  refine MT.of (by decide) rfl (Nat.le_of_ble_eq_true rfl) ?_
  intro X g
  have g0 := g.1
  show V E X 0 0 n M 0 [some (.ref m), some (.int (iI i))] []
  have t0 := hT.h0
  have t1 := hT.h1
  have t2 := hT.h2
  have ho1 := ho.1
  refine V.il1 g0 d_X4_placeAfter_0 ?_
  refine V.iconst g0 d_X4_placeAfter_1 ?_
  refine V.al0 g0 d_X4_placeAfter_2 ?_
  refine V.getf g0 d_X4_placeAfter_3 fl_X4_24 (by assumption) (by rfl) ?_
  refine V.callSNp g0 (c_X6_isWithin h1 (by decide) (by constructor <;> omega)) ky_X6_isWithin ks_X6_isWithin lk_X4_37 (Nat.le_of_ble_eq_true rfl) ⟨Nat.zero_le _, Nat.zero_le _⟩ rfl rfl (Nat.le_of_ble_eq_true rfl) d_X4_placeAfter_6 ?_
  refine V.ifeqB g0 d_X4_placeAfter_9 (fun c_9 => ?_) (fun c_9 => ?_)
  · skip
    refine V.bipush g0 d_X4_placeAfter_21 (by decide) ?_
    refine V.iret g d_X4_placeAfter_23 (Nat.zero_le _) (Nat.zero_le _) ⟨congrArg (fun z => some (Value.int (iI z))) ?_, rfl, rfl⟩
    exact (if_neg c_9).symm
  · skip
    refine V.al0 g0 d_X4_placeAfter_12 ?_
    refine V.getf g0 d_X4_placeAfter_13 fl_X4_21 (by assumption) (by rfl) ?_
    refine V.il1 g0 d_X4_placeAfter_16 ?_
    refine V.iald g0 d_X4_placeAfter_17 (by assumption) (by omega) (by omega) ?_
    refine V.goto g0 d_X4_placeAfter_18 ?_
    refine V.iret g d_X4_placeAfter_23 (Nat.zero_le _) (Nat.zero_le _) ⟨congrArg (fun z => some (Value.int (iI z))) ?_, rfl, rfl⟩
    exact (if_pos c_9).symm

theorem d_X4_dayAfter_0 : Dc cX4_dayAfter 0 1 1 (.iload_n 1) := ⟨by decide +kernel, rfl⟩
theorem d_X4_dayAfter_1 : Dc cX4_dayAfter 1 1 2 (.iconst 0) := ⟨by decide +kernel, rfl⟩
theorem d_X4_dayAfter_2 : Dc cX4_dayAfter 2 1 3 (.aload_n 0) := ⟨by decide +kernel, rfl⟩
theorem d_X4_dayAfter_3 : Dc cX4_dayAfter 3 3 6 (.getfield 24) := ⟨by decide +kernel, rfl⟩
theorem d_X4_dayAfter_6 : Dc cX4_dayAfter 6 3 9 (.invokestatic 37) := ⟨by decide +kernel, rfl⟩
theorem d_X4_dayAfter_9 : Dj cX4_dayAfter 9 12 21 (.ifCond .eq) := ⟨12, by decide +kernel, rfl, by decide⟩
theorem d_X4_dayAfter_12 : Dc cX4_dayAfter 12 1 13 (.aload_n 0) := ⟨by decide +kernel, rfl⟩
theorem d_X4_dayAfter_13 : Dc cX4_dayAfter 13 3 16 (.getfield 15) := ⟨by decide +kernel, rfl⟩
theorem d_X4_dayAfter_16 : Dc cX4_dayAfter 16 1 17 (.iload_n 1) := ⟨by decide +kernel, rfl⟩
theorem d_X4_dayAfter_17 : Dc cX4_dayAfter 17 1 18 .iaload := ⟨by decide +kernel, rfl⟩
theorem d_X4_dayAfter_18 : Dj cX4_dayAfter 18 21 23 .goto := ⟨5, by decide +kernel, rfl, by decide⟩
theorem d_X4_dayAfter_21 : Dc cX4_dayAfter 21 2 23 (.bipush (-5)) := ⟨by decide +kernel, rfl⟩
theorem d_X4_dayAfter_23 : decode cX4_dayAfter 23 = .ok (.ireturn, 1) := by decide +kernel
set_option maxHeartbeats 4000000 in
set_option maxRecDepth 20000 in
theorem c_X4_dayAfter {E : Ev} {n : Nat} {M : Mem} {m N : Nat} {dy pl : Int → Int} {k : Int} (hT : TrM E M m N dy pl k) (ho : TrOk N dy pl k) {i : Int} (h1 : rg i) : MT E yX4_dayAfter cX4_dayAfter 2 (some .int) 1 0 0 [.ref m, .int (iI i)] n M (PF (some (.int (iI (aft dy k i)))) n (M)) := by
  refine MT.of (by decide) rfl (Nat.le_of_ble_eq_true rfl) ?_
  intro X g
  have g0 := g.1
  show V E X 0 0 n M 0 [some (.ref m), some (.int (iI i))] []
  have t0 := hT.h0
  have t1 := hT.h1
  have t2 := hT.h2
  have ho1 := ho.1
  refine V.il1 g0 d_X4_dayAfter_0 ?_
  refine V.iconst g0 d_X4_dayAfter_1 ?_
  refine V.al0 g0 d_X4_dayAfter_2 ?_
  refine V.getf g0 d_X4_dayAfter_3 fl_X4_24 (by assumption) (by rfl) ?_
  refine V.callSNp g0 (c_X6_isWithin h1 (by decide) (by constructor <;> omega)) ky_X6_isWithin ks_X6_isWithin lk_X4_37 (Nat.le_of_ble_eq_true rfl) ⟨Nat.zero_le _, Nat.zero_le _⟩ rfl rfl (Nat.le_of_ble_eq_true rfl) d_X4_dayAfter_6 ?_
  refine V.ifeqB g0 d_X4_dayAfter_9 (fun c_9 => ?_) (fun c_9 => ?_)
  · skip
    refine V.bipush g0 d_X4_dayAfter_21 (by decide) ?_
    refine V.iret g d_X4_dayAfter_23 (Nat.zero_le _) (Nat.zero_le _) ⟨congrArg (fun z => some (Value.int (iI z))) ?_, rfl, rfl⟩
    exact (if_neg c_9).symm
  · skip
    refine V.al0 g0 d_X4_dayAfter_12 ?_
    refine V.getf g0 d_X4_dayAfter_13 fl_X4_15 (by assumption) (by rfl) ?_
    refine V.il1 g0 d_X4_dayAfter_16 ?_
    refine V.iald g0 d_X4_dayAfter_17 (by assumption) (by omega) (by omega) ?_
    refine V.goto g0 d_X4_dayAfter_18 ?_
    refine V.iret g d_X4_dayAfter_23 (Nat.zero_le _) (Nat.zero_le _) ⟨congrArg (fun z => some (Value.int (iI z))) ?_, rfl, rfl⟩
    exact (if_pos c_9).symm

theorem d_X4_begin_0 : Dc cX4_begin 0 1 1 (.aload_n 0) := ⟨by decide +kernel, rfl⟩
theorem d_X4_begin_1 : Dc cX4_begin 1 3 4 (.getfield 21) := ⟨by decide +kernel, rfl⟩
theorem d_X4_begin_4 : Dc cX4_begin 4 1 5 (.iconst 0) := ⟨by decide +kernel, rfl⟩
theorem d_X4_begin_5 : Dc cX4_begin 5 1 6 (.iload_n 1) := ⟨by decide +kernel, rfl⟩
theorem d_X4_begin_6 : Dc cX4_begin 6 1 7 .iastore := ⟨by decide +kernel, rfl⟩
theorem d_X4_begin_7 : Dc cX4_begin 7 1 8 (.aload_n 0) := ⟨by decide +kernel, rfl⟩
theorem d_X4_begin_8 : Dc cX4_begin 8 3 11 (.getfield 15) := ⟨by decide +kernel, rfl⟩
theorem d_X4_begin_11 : Dc cX4_begin 11 1 12 (.iconst 0) := ⟨by decide +kernel, rfl⟩
theorem d_X4_begin_12 : Dc cX4_begin 12 1 13 (.iload_n 2) := ⟨by decide +kernel, rfl⟩
theorem d_X4_begin_13 : Dc cX4_begin 13 1 14 .iastore := ⟨by decide +kernel, rfl⟩
theorem d_X4_begin_14 : Dc cX4_begin 14 1 15 (.aload_n 0) := ⟨by decide +kernel, rfl⟩
theorem d_X4_begin_15 : Dc cX4_begin 15 1 16 (.iconst 0) := ⟨by decide +kernel, rfl⟩
theorem d_X4_begin_16 : Dc cX4_begin 16 3 19 (.putfield 24) := ⟨by decide +kernel, rfl⟩
theorem d_X4_begin_19 : decode cX4_begin 19 = .ok (.return_, 1) := by decide +kernel
set_option maxHeartbeats 4000000 in
set_option maxRecDepth 20000 in
theorem c_X4_begin {E : Ev} {n : Nat} {M : Mem} {m N : Nat} {dy pl : Int → Int} {k : Int} (hT : TrM E M m N dy pl k) (hN : 0 < N ∧ N < 100) {p d : Int} : MT E yX4_begin cX4_begin 3 none 0 0 0 [.ref m, .int (iI p), .int (iI d)] n M ((PF none n (trU E M m N (upI dy 0 d) (upI pl 0 p) (0)))) := by
  refine MT.of (by decide) rfl (Nat.le_of_ble_eq_true rfl) ?_
  intro X g
  have g0 := g.1
  show V E X 0 0 n M 0 [some (.ref m), some (.int (iI p)), some (.int (iI d))] []
  refine V.eqM (tr_id hT).symm ?_
  refine V.al0 g0 d_X4_begin_0 ?_
  refine V.getf g0 d_X4_begin_1 fl_X4_21 (by first | exact tr_0 | exact tr_1 | exact tr_2) (by rfl) ?_
  refine V.iconst g0 d_X4_begin_4 ?_
  refine V.il1 g0 d_X4_begin_5 ?_
  refine V.iast g0 d_X4_begin_6 (by first | exact tr_0 | exact tr_1 | exact tr_2) (by omega) (by omega) ?_
  first | refine V.eqM tr_u1 ?_ | refine V.eqM tr_u2 ?_ | refine V.eqM tr_u0 ?_
  refine V.al0 g0 d_X4_begin_7 ?_
  refine V.getf g0 d_X4_begin_8 fl_X4_15 (by first | exact tr_0 | exact tr_1 | exact tr_2) (by rfl) ?_
  refine V.iconst g0 d_X4_begin_11 ?_
  refine V.il2 g0 d_X4_begin_12 ?_
  refine V.iast g0 d_X4_begin_13 (by first | exact tr_0 | exact tr_1 | exact tr_2) (by omega) (by omega) ?_
  first | refine V.eqM tr_u1 ?_ | refine V.eqM tr_u2 ?_ | refine V.eqM tr_u0 ?_
  refine V.al0 g0 d_X4_begin_14 ?_
  refine V.iconst g0 d_X4_begin_15 ?_
  refine V.putf g0 d_X4_begin_16 fp_X4_24 (by first | exact tr_0 | exact tr_1 | exact tr_2) (Nat.le_of_ble_eq_true rfl) rfl rfl ?_
  first | refine V.eqM tr_u1 ?_ | refine V.eqM tr_u2 ?_ | refine V.eqM tr_u0 ?_
  refine V.vret g d_X4_begin_19 (Nat.zero_le _) (Nat.zero_le _) ?_
  exact ⟨rfl, rfl, rfl⟩

theorem d_X4_add_0 : Dc cX4_add 0 1 1 (.aload_n 0) := ⟨by decide +kernel, rfl⟩
theorem d_X4_add_1 : Dc cX4_add 1 3 4 (.getfield 24) := ⟨by decide +kernel, rfl⟩
theorem d_X4_add_4 : Dc cX4_add 4 1 5 (.iconst 1) := ⟨by decide +kernel, rfl⟩
theorem d_X4_add_5 : Dc cX4_add 5 1 6 .iadd := ⟨by decide +kernel, rfl⟩
theorem d_X4_add_6 : Dc cX4_add 6 1 7 (.aload_n 0) := ⟨by decide +kernel, rfl⟩
theorem d_X4_add_7 : Dc cX4_add 7 3 10 (.getfield 15) := ⟨by decide +kernel, rfl⟩
theorem d_X4_add_10 : Dc cX4_add 10 1 11 .arraylength := ⟨by decide +kernel, rfl⟩
theorem d_X4_add_11 : Dj cX4_add 11 14 44 (.if_icmp .ge) := ⟨33, by decide +kernel, rfl, by decide⟩
theorem d_X4_add_14 : Dc cX4_add 14 1 15 (.aload_n 0) := ⟨by decide +kernel, rfl⟩
theorem d_X4_add_15 : Dc cX4_add 15 1 16 .dup := ⟨by decide +kernel, rfl⟩
theorem d_X4_add_16 : Dc cX4_add 16 3 19 (.getfield 24) := ⟨by decide +kernel, rfl⟩
theorem d_X4_add_19 : Dc cX4_add 19 1 20 (.iconst 1) := ⟨by decide +kernel, rfl⟩
theorem d_X4_add_20 : Dc cX4_add 20 1 21 .iadd := ⟨by decide +kernel, rfl⟩
theorem d_X4_add_21 : Dc cX4_add 21 3 24 (.putfield 24) := ⟨by decide +kernel, rfl⟩
theorem d_X4_add_24 : Dc cX4_add 24 1 25 (.aload_n 0) := ⟨by decide +kernel, rfl⟩
theorem d_X4_add_25 : Dc cX4_add 25 3 28 (.getfield 21) := ⟨by decide +kernel, rfl⟩
theorem d_X4_add_28 : Dc cX4_add 28 1 29 (.aload_n 0) := ⟨by decide +kernel, rfl⟩
theorem d_X4_add_29 : Dc cX4_add 29 3 32 (.getfield 24) := ⟨by decide +kernel, rfl⟩
theorem d_X4_add_32 : Dc cX4_add 32 1 33 (.iload_n 1) := ⟨by decide +kernel, rfl⟩
theorem d_X4_add_33 : Dc cX4_add 33 1 34 .iastore := ⟨by decide +kernel, rfl⟩
theorem d_X4_add_34 : Dc cX4_add 34 1 35 (.aload_n 0) := ⟨by decide +kernel, rfl⟩
theorem d_X4_add_35 : Dc cX4_add 35 3 38 (.getfield 15) := ⟨by decide +kernel, rfl⟩
theorem d_X4_add_38 : Dc cX4_add 38 1 39 (.aload_n 0) := ⟨by decide +kernel, rfl⟩
theorem d_X4_add_39 : Dc cX4_add 39 3 42 (.getfield 24) := ⟨by decide +kernel, rfl⟩
theorem d_X4_add_42 : Dc cX4_add 42 1 43 (.iload_n 2) := ⟨by decide +kernel, rfl⟩
theorem d_X4_add_43 : Dc cX4_add 43 1 44 .iastore := ⟨by decide +kernel, rfl⟩
theorem d_X4_add_44 : decode cX4_add 44 = .ok (.return_, 1) := by decide +kernel
set_option maxHeartbeats 4000000 in
set_option maxRecDepth 20000 in
theorem c_X4_add {E : Ev} {n : Nat} {M : Mem} {m N : Nat} {dy pl : Int → Int} {k : Int} (hT : TrM E M m N dy pl k) (ho : TrOk N dy pl k) {p d : Int} (hk : k + 1 < N) : MT E yX4_add cX4_add 3 none 0 0 0 [.ref m, .int (iI p), .int (iI d)] n M ((PF none n (trU E M m N (upI dy (k + 1) d) (upI pl (k + 1) p) (k + 1)))) := by
  refine MT.of (by decide) rfl (Nat.le_of_ble_eq_true rfl) ?_
  intro X g
  have g0 := g.1
  show V E X 0 0 n M 0 [some (.ref m), some (.int (iI p)), some (.int (iI d))] []
  have ho1 := ho.1
  refine V.eqM (tr_id hT).symm ?_
  refine V.al0 g0 d_X4_add_0 ?_
  refine V.getf g0 d_X4_add_1 fl_X4_24 (by first | exact tr_0 | exact tr_1 | exact tr_2) (by rfl) ?_
  refine V.iconst g0 d_X4_add_4 ?_
  refine V.iadd g0 d_X4_add_5 ?_
  refine V.al0 g0 d_X4_add_6 ?_
  refine V.getf g0 d_X4_add_7 fl_X4_15 (by first | exact tr_0 | exact tr_1 | exact tr_2) (by rfl) ?_
  refine V.alen_ia g0 d_X4_add_10 (by first | exact tr_0 | exact tr_1 | exact tr_2) ?_
  refine V.icmpge g0 d_X4_add_11 (by omega) (fun c_11 => ?_) (fun c_11 => ?_)
  · skip
    exfalso; omega
  · skip
    refine V.al0 g0 d_X4_add_14 ?_
    refine V.dup g0 d_X4_add_15 rfl ?_
    refine V.getf g0 d_X4_add_16 fl_X4_24 (by first | exact tr_0 | exact tr_1 | exact tr_2) (by rfl) ?_
    refine V.iconst g0 d_X4_add_19 ?_
    refine V.iadd g0 d_X4_add_20 ?_
    refine V.putf g0 d_X4_add_21 fp_X4_24 (by first | exact tr_0 | exact tr_1 | exact tr_2) (Nat.le_of_ble_eq_true rfl) rfl rfl ?_
    first | refine V.eqM tr_u1 ?_ | refine V.eqM tr_u2 ?_ | refine V.eqM tr_u0 ?_
    refine V.al0 g0 d_X4_add_24 ?_
    refine V.getf g0 d_X4_add_25 fl_X4_21 (by first | exact tr_0 | exact tr_1 | exact tr_2) (by rfl) ?_
    refine V.al0 g0 d_X4_add_28 ?_
    refine V.getf g0 d_X4_add_29 fl_X4_24 (by first | exact tr_0 | exact tr_1 | exact tr_2) (by rfl) ?_
    refine V.il1 g0 d_X4_add_32 ?_
    refine V.iast g0 d_X4_add_33 (by first | exact tr_0 | exact tr_1 | exact tr_2) (by omega) (by omega) ?_
    first | refine V.eqM tr_u1 ?_ | refine V.eqM tr_u2 ?_ | refine V.eqM tr_u0 ?_
    refine V.al0 g0 d_X4_add_34 ?_
    refine V.getf g0 d_X4_add_35 fl_X4_15 (by first | exact tr_0 | exact tr_1 | exact tr_2) (by rfl) ?_
    refine V.al0 g0 d_X4_add_38 ?_
    refine V.getf g0 d_X4_add_39 fl_X4_24 (by first | exact tr_0 | exact tr_1 | exact tr_2) (by rfl) ?_
    refine V.il2 g0 d_X4_add_42 ?_
    refine V.iast g0 d_X4_add_43 (by first | exact tr_0 | exact tr_1 | exact tr_2) (by omega) (by omega) ?_
    first | refine V.eqM tr_u1 ?_ | refine V.eqM tr_u2 ?_ | refine V.eqM tr_u0 ?_
    refine V.vret g d_X4_add_44 (Nat.zero_le _) (Nat.zero_le _) ?_
    exact ⟨rfl, rfl, rfl⟩

theorem d_X4_daysIn_0 : Dc cX4_daysIn 0 1 1 (.iconst 0) := ⟨by decide +kernel, rfl⟩
theorem d_X4_daysIn_1 : Dc cX4_daysIn 1 2 3 (.istore 4) := ⟨by decide +kernel, rfl⟩
theorem d_X4_daysIn_3 : Dc cX4_daysIn 3 1 4 (.iconst 0) := ⟨by decide +kernel, rfl⟩
theorem d_X4_daysIn_4 : Dc cX4_daysIn 4 2 6 (.istore 5) := ⟨by decide +kernel, rfl⟩
theorem d_X4_daysIn_6 : Dc cX4_daysIn 6 2 8 (.iload 5) := ⟨by decide +kernel, rfl⟩
theorem d_X4_daysIn_8 : Dc cX4_daysIn 8 1 9 (.aload_n 0) := ⟨by decide +kernel, rfl⟩
theorem d_X4_daysIn_9 : Dc cX4_daysIn 9 3 12 (.getfield 24) := ⟨by decide +kernel, rfl⟩
theorem d_X4_daysIn_12 : Dj cX4_daysIn 12 15 114 (.if_icmp .gt) := ⟨102, by decide +kernel, rfl, by decide⟩
theorem d_X4_daysIn_15 : Dc cX4_daysIn 15 1 16 (.aload_n 0) := ⟨by decide +kernel, rfl⟩
theorem d_X4_daysIn_16 : Dc cX4_daysIn 16 3 19 (.getfield 15) := ⟨by decide +kernel, rfl⟩
theorem d_X4_daysIn_19 : Dc cX4_daysIn 19 2 21 (.iload 5) := ⟨by decide +kernel, rfl⟩
theorem d_X4_daysIn_21 : Dc cX4_daysIn 21 1 22 .iaload := ⟨by decide +kernel, rfl⟩
theorem d_X4_daysIn_22 : Dc cX4_daysIn 22 1 23 (.iload_n 2) := ⟨by decide +kernel, rfl⟩
theorem d_X4_daysIn_23 : Dj cX4_daysIn 23 26 36 (.if_icmp .le) := ⟨13, by decide +kernel, rfl, by decide⟩
theorem d_X4_daysIn_26 : Dc cX4_daysIn 26 1 27 (.aload_n 0) := ⟨by decide +kernel, rfl⟩
theorem d_X4_daysIn_27 : Dc cX4_daysIn 27 3 30 (.getfield 15) := ⟨by decide +kernel, rfl⟩
theorem d_X4_daysIn_30 : Dc cX4_daysIn 30 2 32 (.iload 5) := ⟨by decide +kernel, rfl⟩
theorem d_X4_daysIn_32 : Dc cX4_daysIn 32 1 33 .iaload := ⟨by decide +kernel, rfl⟩
theorem d_X4_daysIn_33 : Dj cX4_daysIn 33 36 37 .goto := ⟨4, by decide +kernel, rfl, by decide⟩
theorem d_X4_daysIn_36 : Dc cX4_daysIn 36 1 37 (.iload_n 2) := ⟨by decide +kernel, rfl⟩
theorem d_X4_daysIn_37 : Dc cX4_daysIn 37 2 39 (.istore 6) := ⟨by decide +kernel, rfl⟩
theorem d_X4_daysIn_39 : Dc cX4_daysIn 39 2 41 (.iload 5) := ⟨by decide +kernel, rfl⟩
theorem d_X4_daysIn_41 : Dc cX4_daysIn 41 1 42 (.aload_n 0) := ⟨by decide +kernel, rfl⟩
theorem d_X4_daysIn_42 : Dc cX4_daysIn 42 3 45 (.getfield 24) := ⟨by decide +kernel, rfl⟩
theorem d_X4_daysIn_45 : Dj cX4_daysIn 45 48 75 (.if_icmp .ge) := ⟨30, by decide +kernel, rfl, by decide⟩
theorem d_X4_daysIn_48 : Dc cX4_daysIn 48 1 49 (.aload_n 0) := ⟨by decide +kernel, rfl⟩
theorem d_X4_daysIn_49 : Dc cX4_daysIn 49 3 52 (.getfield 15) := ⟨by decide +kernel, rfl⟩
theorem d_X4_daysIn_52 : Dc cX4_daysIn 52 2 54 (.iload 5) := ⟨by decide +kernel, rfl⟩
theorem d_X4_daysIn_54 : Dc cX4_daysIn 54 1 55 (.iconst 1) := ⟨by decide +kernel, rfl⟩
theorem d_X4_daysIn_55 : Dc cX4_daysIn 55 1 56 .iadd := ⟨by decide +kernel, rfl⟩
theorem d_X4_daysIn_56 : Dc cX4_daysIn 56 1 57 .iaload := ⟨by decide +kernel, rfl⟩
theorem d_X4_daysIn_57 : Dc cX4_daysIn 57 1 58 (.iload_n 3) := ⟨by decide +kernel, rfl⟩
theorem d_X4_daysIn_58 : Dj cX4_daysIn 58 61 75 (.if_icmp .gt) := ⟨17, by decide +kernel, rfl, by decide⟩
theorem d_X4_daysIn_61 : Dc cX4_daysIn 61 1 62 (.aload_n 0) := ⟨by decide +kernel, rfl⟩
theorem d_X4_daysIn_62 : Dc cX4_daysIn 62 3 65 (.getfield 15) := ⟨by decide +kernel, rfl⟩
theorem d_X4_daysIn_65 : Dc cX4_daysIn 65 2 67 (.iload 5) := ⟨by decide +kernel, rfl⟩
theorem d_X4_daysIn_67 : Dc cX4_daysIn 67 1 68 (.iconst 1) := ⟨by decide +kernel, rfl⟩
theorem d_X4_daysIn_68 : Dc cX4_daysIn 68 1 69 .iadd := ⟨by decide +kernel, rfl⟩
theorem d_X4_daysIn_69 : Dc cX4_daysIn 69 1 70 .iaload := ⟨by decide +kernel, rfl⟩
theorem d_X4_daysIn_70 : Dc cX4_daysIn 70 1 71 (.iconst 1) := ⟨by decide +kernel, rfl⟩
theorem d_X4_daysIn_71 : Dc cX4_daysIn 71 1 72 .isub := ⟨by decide +kernel, rfl⟩
theorem d_X4_daysIn_72 : Dj cX4_daysIn 72 75 76 .goto := ⟨4, by decide +kernel, rfl, by decide⟩
theorem d_X4_daysIn_75 : Dc cX4_daysIn 75 1 76 (.iload_n 3) := ⟨by decide +kernel, rfl⟩
theorem d_X4_daysIn_76 : Dc cX4_daysIn 76 2 78 (.istore 7) := ⟨by decide +kernel, rfl⟩
theorem d_X4_daysIn_78 : Dc cX4_daysIn 78 1 79 (.aload_n 0) := ⟨by decide +kernel, rfl⟩
theorem d_X4_daysIn_79 : Dc cX4_daysIn 79 3 82 (.getfield 21) := ⟨by decide +kernel, rfl⟩
theorem d_X4_daysIn_82 : Dc cX4_daysIn 82 2 84 (.iload 5) := ⟨by decide +kernel, rfl⟩
theorem d_X4_daysIn_84 : Dc cX4_daysIn 84 1 85 .iaload := ⟨by decide +kernel, rfl⟩
theorem d_X4_daysIn_85 : Dc cX4_daysIn 85 1 86 (.iload_n 1) := ⟨by decide +kernel, rfl⟩
theorem d_X4_daysIn_86 : Dj cX4_daysIn 86 89 108 (.if_icmp .ne) := ⟨22, by decide +kernel, rfl, by decide⟩
theorem d_X4_daysIn_89 : Dc cX4_daysIn 89 2 91 (.iload 6) := ⟨by decide +kernel, rfl⟩
theorem d_X4_daysIn_91 : Dc cX4_daysIn 91 2 93 (.iload 7) := ⟨by decide +kernel, rfl⟩
theorem d_X4_daysIn_93 : Dj cX4_daysIn 93 96 108 (.if_icmp .gt) := ⟨15, by decide +kernel, rfl, by decide⟩
theorem d_X4_daysIn_96 : Dc cX4_daysIn 96 2 98 (.iload 4) := ⟨by decide +kernel, rfl⟩
theorem d_X4_daysIn_98 : Dc cX4_daysIn 98 2 100 (.iload 7) := ⟨by decide +kernel, rfl⟩
theorem d_X4_daysIn_100 : Dc cX4_daysIn 100 2 102 (.iload 6) := ⟨by decide +kernel, rfl⟩
theorem d_X4_daysIn_102 : Dc cX4_daysIn 102 1 103 .isub := ⟨by decide +kernel, rfl⟩
theorem d_X4_daysIn_103 : Dc cX4_daysIn 103 1 104 (.iconst 1) := ⟨by decide +kernel, rfl⟩
theorem d_X4_daysIn_104 : Dc cX4_daysIn 104 1 105 .iadd := ⟨by decide +kernel, rfl⟩
theorem d_X4_daysIn_105 : Dc cX4_daysIn 105 1 106 .iadd := ⟨by decide +kernel, rfl⟩
theorem d_X4_daysIn_106 : Dc cX4_daysIn 106 2 108 (.istore 4) := ⟨by decide +kernel, rfl⟩
theorem d_X4_daysIn_108 : Dc cX4_daysIn 108 3 111 (.iinc 5 1) := ⟨by decide +kernel, rfl⟩
theorem d_X4_daysIn_111 : Dj cX4_daysIn 111 114 6 .goto := ⟨(-105), by decide +kernel, rfl, by decide⟩
theorem d_X4_daysIn_114 : Dc cX4_daysIn 114 2 116 (.iload 4) := ⟨by decide +kernel, rfl⟩
theorem d_X4_daysIn_116 : decode cX4_daysIn 116 = .ok (.ireturn, 1) := by decide +kernel
set_option maxHeartbeats 4000000 in
set_option maxRecDepth 20000 in
theorem c_X4_daysIn {E : Ev} {n : Nat} {M : Mem} {m N : Nat} {dy pl : Int → Int} {k : Int} (hT : TrM E M m N dy pl k) (ho : TrOk N dy pl k) {c x u : Int} (h1 : 0 ≤ c ∧ c ≤ 5) (h2 : 0 ≤ x ∧ x ≤ 999) (h3 : -1 ≤ u ∧ u ≤ 999) : MT E yX4_daysIn cX4_daysIn 8 (some .int) 0 0 0 [.ref m, .int (iI c), .int (iI x), .int (iI u)] n M (PF (some (.int (iI (dSum dy pl k c x u (k + 1).toNat)))) n (M)) := by
  refine MT.of (by decide) rfl (Nat.le_of_ble_eq_true rfl) ?_
  intro X g
  have g0 := g.1
  show V E X 0 0 n M 0 [some (.ref m), some (.int (iI c)), some (.int (iI x)), some (.int (iI u)), none, none, none, none] []
  have t0 := hT.h0
  have t1 := hT.h1
  have t2 := hT.h2
  have ho1 := ho.1
  refine V.iconst g0 d_X4_daysIn_0 ?_
  refine V.is4 g0 d_X4_daysIn_1 ?_
  refine V.iconst g0 d_X4_daysIn_3 ?_
  refine V.is5 g0 d_X4_daysIn_4 ?_
  have LP : ∀ (f i : Nat) (z : Int), i + f = (k + 1).toNat → z = dSum dy pl k c x u i → V E X 0 0 n (M) 6 [some (.ref m), some (.int (iI c)), some (.int (iI x)), some (.int (iI u)), some (.int (iI z)), some (.int (iI (i : Int))), none, none] [] := by
    intro f
    induction f using Nat.strongRecOn with
    | _ f ih =>
    intro i z hf hz
    refine V.il5 g0 d_X4_daysIn_6 ?_
    refine V.al0 g0 d_X4_daysIn_8 ?_
    refine V.getf g0 d_X4_daysIn_9 fl_X4_24 (by assumption) (by rfl) ?_
    refine V.icmpgt g0 d_X4_daysIn_12 (by omega) (fun c_12 => ?_) (fun c_12 => ?_)
    · skip
      refine V.il4 g0 d_X4_daysIn_114 ?_
      refine V.iret g d_X4_daysIn_116 (Nat.zero_le _) (Nat.zero_le _) ⟨congrArg (fun z => some (Value.int (iI z))) ?_, rfl, rfl⟩
      rw [hz, show (k + 1).toNat = i by omega]
    · skip
      have hb := ho.2 i (by omega) (by omega)
      refine V.al0 g0 d_X4_daysIn_15 ?_
      refine V.getf g0 d_X4_daysIn_16 fl_X4_15 (by assumption) (by rfl) ?_
      refine V.il5 g0 d_X4_daysIn_19 ?_
      refine V.iald g0 d_X4_daysIn_21 (by assumption) (by omega) (by omega) ?_
      refine V.il2 g0 d_X4_daysIn_22 ?_
      refine V.icmple g0 d_X4_daysIn_23 (by omega) (fun c_23 => ?_) (fun c_23 => ?_)
      · skip
        refine V.il2 g0 d_X4_daysIn_36 ?_
        refine V.is6 g0 d_X4_daysIn_37 ?_
        refine V.il5 g0 d_X4_daysIn_39 ?_
        refine V.al0 g0 d_X4_daysIn_41 ?_
        refine V.getf g0 d_X4_daysIn_42 fl_X4_24 (by assumption) (by rfl) ?_
        refine V.icmpge g0 d_X4_daysIn_45 (by omega) (fun c_45 => ?_) (fun c_45 => ?_)
        · skip
          refine V.il3 g0 d_X4_daysIn_75 ?_
          refine V.is7 g0 d_X4_daysIn_76 ?_
          refine V.al0 g0 d_X4_daysIn_78 ?_
          refine V.getf g0 d_X4_daysIn_79 fl_X4_21 (by assumption) (by rfl) ?_
          refine V.il5 g0 d_X4_daysIn_82 ?_
          refine V.iald g0 d_X4_daysIn_84 (by assumption) (by omega) (by omega) ?_
          refine V.il1 g0 d_X4_daysIn_85 ?_
          refine V.icmpne g0 d_X4_daysIn_86 (by omega) (fun c_86 => ?_) (fun c_86 => ?_)
          · skip
            refine V.inc5 g0 d_X4_daysIn_108 ?_
            refine V.goto g0 d_X4_daysIn_111 ?_
            refine V.weak2 (ih (f - 1) (by omega) (i + 1) _ (by omega) ?_) (lcLe_s (lcLe_s (lcLe_s (lcLe_s (lcLe_s (lcLe_s (lcLe_f (lcLe_f lcLe_n))))))))
            show _ = dSum dy pl k c x u i + dTerm dy pl k c x u i
            rw [hz]
            unfold dTerm dFst dLst
            repeat' split
            all_goals omega
          · skip
            refine V.il6 g0 d_X4_daysIn_89 ?_
            refine V.il7 g0 d_X4_daysIn_91 ?_
            refine V.icmpgt g0 d_X4_daysIn_93 (by omega) (fun c_93 => ?_) (fun c_93 => ?_)
            · skip
              refine V.inc5 g0 d_X4_daysIn_108 ?_
              refine V.goto g0 d_X4_daysIn_111 ?_
              refine V.weak2 (ih (f - 1) (by omega) (i + 1) _ (by omega) ?_) (lcLe_s (lcLe_s (lcLe_s (lcLe_s (lcLe_s (lcLe_s (lcLe_f (lcLe_f lcLe_n))))))))
              show _ = dSum dy pl k c x u i + dTerm dy pl k c x u i
              rw [hz]
              unfold dTerm dFst dLst
              repeat' split
              all_goals omega
            · skip
              refine V.il4 g0 d_X4_daysIn_96 ?_
              refine V.il7 g0 d_X4_daysIn_98 ?_
              refine V.il6 g0 d_X4_daysIn_100 ?_
              refine V.isub g0 d_X4_daysIn_102 ?_
              refine V.iconst g0 d_X4_daysIn_103 ?_
              refine V.iadd g0 d_X4_daysIn_104 ?_
              refine V.iadd g0 d_X4_daysIn_105 ?_
              refine V.is4 g0 d_X4_daysIn_106 ?_
              refine V.inc5 g0 d_X4_daysIn_108 ?_
              refine V.goto g0 d_X4_daysIn_111 ?_
              refine V.weak2 (ih (f - 1) (by omega) (i + 1) _ (by omega) ?_) (lcLe_s (lcLe_s (lcLe_s (lcLe_s (lcLe_s (lcLe_s (lcLe_f (lcLe_f lcLe_n))))))))
              show _ = dSum dy pl k c x u i + dTerm dy pl k c x u i
              rw [hz]
              unfold dTerm dFst dLst
              repeat' split
              all_goals omega
        · skip
          have hb2 := ho.2 ((i : Int) + 1) (by omega) (by omega)
          refine V.al0 g0 d_X4_daysIn_48 ?_
          refine V.getf g0 d_X4_daysIn_49 fl_X4_15 (by assumption) (by rfl) ?_
          refine V.il5 g0 d_X4_daysIn_52 ?_
          refine V.iconst g0 d_X4_daysIn_54 ?_
          refine V.iadd g0 d_X4_daysIn_55 ?_
          refine V.iald g0 d_X4_daysIn_56 (by assumption) (by omega) (by omega) ?_
          refine V.il3 g0 d_X4_daysIn_57 ?_
          refine V.icmpgt g0 d_X4_daysIn_58 (by omega) (fun c_58 => ?_) (fun c_58 => ?_)
          · skip
            refine V.il3 g0 d_X4_daysIn_75 ?_
            refine V.is7 g0 d_X4_daysIn_76 ?_
            refine V.al0 g0 d_X4_daysIn_78 ?_
            refine V.getf g0 d_X4_daysIn_79 fl_X4_21 (by assumption) (by rfl) ?_
            refine V.il5 g0 d_X4_daysIn_82 ?_
            refine V.iald g0 d_X4_daysIn_84 (by assumption) (by omega) (by omega) ?_
            refine V.il1 g0 d_X4_daysIn_85 ?_
            refine V.icmpne g0 d_X4_daysIn_86 (by omega) (fun c_86 => ?_) (fun c_86 => ?_)
            · skip
              refine V.inc5 g0 d_X4_daysIn_108 ?_
              refine V.goto g0 d_X4_daysIn_111 ?_
              refine V.weak2 (ih (f - 1) (by omega) (i + 1) _ (by omega) ?_) (lcLe_s (lcLe_s (lcLe_s (lcLe_s (lcLe_s (lcLe_s (lcLe_f (lcLe_f lcLe_n))))))))
              show _ = dSum dy pl k c x u i + dTerm dy pl k c x u i
              rw [hz]
              unfold dTerm dFst dLst
              repeat' split
              all_goals omega
            · skip
              refine V.il6 g0 d_X4_daysIn_89 ?_
              refine V.il7 g0 d_X4_daysIn_91 ?_
              refine V.icmpgt g0 d_X4_daysIn_93 (by omega) (fun c_93 => ?_) (fun c_93 => ?_)
              · skip
                refine V.inc5 g0 d_X4_daysIn_108 ?_
                refine V.goto g0 d_X4_daysIn_111 ?_
                refine V.weak2 (ih (f - 1) (by omega) (i + 1) _ (by omega) ?_) (lcLe_s (lcLe_s (lcLe_s (lcLe_s (lcLe_s (lcLe_s (lcLe_f (lcLe_f lcLe_n))))))))
                show _ = dSum dy pl k c x u i + dTerm dy pl k c x u i
                rw [hz]
                unfold dTerm dFst dLst
                repeat' split
                all_goals omega
              · skip
                refine V.il4 g0 d_X4_daysIn_96 ?_
                refine V.il7 g0 d_X4_daysIn_98 ?_
                refine V.il6 g0 d_X4_daysIn_100 ?_
                refine V.isub g0 d_X4_daysIn_102 ?_
                refine V.iconst g0 d_X4_daysIn_103 ?_
                refine V.iadd g0 d_X4_daysIn_104 ?_
                refine V.iadd g0 d_X4_daysIn_105 ?_
                refine V.is4 g0 d_X4_daysIn_106 ?_
                refine V.inc5 g0 d_X4_daysIn_108 ?_
                refine V.goto g0 d_X4_daysIn_111 ?_
                refine V.weak2 (ih (f - 1) (by omega) (i + 1) _ (by omega) ?_) (lcLe_s (lcLe_s (lcLe_s (lcLe_s (lcLe_s (lcLe_s (lcLe_f (lcLe_f lcLe_n))))))))
                show _ = dSum dy pl k c x u i + dTerm dy pl k c x u i
                rw [hz]
                unfold dTerm dFst dLst
                repeat' split
                all_goals omega
          · skip
            refine V.al0 g0 d_X4_daysIn_61 ?_
            refine V.getf g0 d_X4_daysIn_62 fl_X4_15 (by assumption) (by rfl) ?_
            refine V.il5 g0 d_X4_daysIn_65 ?_
            refine V.iconst g0 d_X4_daysIn_67 ?_
            refine V.iadd g0 d_X4_daysIn_68 ?_
            refine V.iald g0 d_X4_daysIn_69 (by assumption) (by omega) (by omega) ?_
            refine V.iconst g0 d_X4_daysIn_70 ?_
            refine V.isub g0 d_X4_daysIn_71 ?_
            refine V.goto g0 d_X4_daysIn_72 ?_
            refine V.is7 g0 d_X4_daysIn_76 ?_
            refine V.al0 g0 d_X4_daysIn_78 ?_
            refine V.getf g0 d_X4_daysIn_79 fl_X4_21 (by assumption) (by rfl) ?_
            refine V.il5 g0 d_X4_daysIn_82 ?_
            refine V.iald g0 d_X4_daysIn_84 (by assumption) (by omega) (by omega) ?_
            refine V.il1 g0 d_X4_daysIn_85 ?_
            refine V.icmpne g0 d_X4_daysIn_86 (by omega) (fun c_86 => ?_) (fun c_86 => ?_)
            · skip
              refine V.inc5 g0 d_X4_daysIn_108 ?_
              refine V.goto g0 d_X4_daysIn_111 ?_
              refine V.weak2 (ih (f - 1) (by omega) (i + 1) _ (by omega) ?_) (lcLe_s (lcLe_s (lcLe_s (lcLe_s (lcLe_s (lcLe_s (lcLe_f (lcLe_f lcLe_n))))))))
              show _ = dSum dy pl k c x u i + dTerm dy pl k c x u i
              rw [hz]
              unfold dTerm dFst dLst
              repeat' split
              all_goals omega
            · skip
              refine V.il6 g0 d_X4_daysIn_89 ?_
              refine V.il7 g0 d_X4_daysIn_91 ?_
              refine V.icmpgt g0 d_X4_daysIn_93 (by omega) (fun c_93 => ?_) (fun c_93 => ?_)
              · skip
                refine V.inc5 g0 d_X4_daysIn_108 ?_
                refine V.goto g0 d_X4_daysIn_111 ?_
                refine V.weak2 (ih (f - 1) (by omega) (i + 1) _ (by omega) ?_) (lcLe_s (lcLe_s (lcLe_s (lcLe_s (lcLe_s (lcLe_s (lcLe_f (lcLe_f lcLe_n))))))))
                show _ = dSum dy pl k c x u i + dTerm dy pl k c x u i
                rw [hz]
                unfold dTerm dFst dLst
                repeat' split
                all_goals omega
              · skip
                refine V.il4 g0 d_X4_daysIn_96 ?_
                refine V.il7 g0 d_X4_daysIn_98 ?_
                refine V.il6 g0 d_X4_daysIn_100 ?_
                refine V.isub g0 d_X4_daysIn_102 ?_
                refine V.iconst g0 d_X4_daysIn_103 ?_
                refine V.iadd g0 d_X4_daysIn_104 ?_
                refine V.iadd g0 d_X4_daysIn_105 ?_
                refine V.is4 g0 d_X4_daysIn_106 ?_
                refine V.inc5 g0 d_X4_daysIn_108 ?_
                refine V.goto g0 d_X4_daysIn_111 ?_
                refine V.weak2 (ih (f - 1) (by omega) (i + 1) _ (by omega) ?_) (lcLe_s (lcLe_s (lcLe_s (lcLe_s (lcLe_s (lcLe_s (lcLe_f (lcLe_f lcLe_n))))))))
                show _ = dSum dy pl k c x u i + dTerm dy pl k c x u i
                rw [hz]
                unfold dTerm dFst dLst
                repeat' split
                all_goals omega
      · skip
        refine V.al0 g0 d_X4_daysIn_26 ?_
        refine V.getf g0 d_X4_daysIn_27 fl_X4_15 (by assumption) (by rfl) ?_
        refine V.il5 g0 d_X4_daysIn_30 ?_
        refine V.iald g0 d_X4_daysIn_32 (by assumption) (by omega) (by omega) ?_
        refine V.goto g0 d_X4_daysIn_33 ?_
        refine V.is6 g0 d_X4_daysIn_37 ?_
        refine V.il5 g0 d_X4_daysIn_39 ?_
        refine V.al0 g0 d_X4_daysIn_41 ?_
        refine V.getf g0 d_X4_daysIn_42 fl_X4_24 (by assumption) (by rfl) ?_
        refine V.icmpge g0 d_X4_daysIn_45 (by omega) (fun c_45 => ?_) (fun c_45 => ?_)
        · skip
          refine V.il3 g0 d_X4_daysIn_75 ?_
          refine V.is7 g0 d_X4_daysIn_76 ?_
          refine V.al0 g0 d_X4_daysIn_78 ?_
          refine V.getf g0 d_X4_daysIn_79 fl_X4_21 (by assumption) (by rfl) ?_
          refine V.il5 g0 d_X4_daysIn_82 ?_
          refine V.iald g0 d_X4_daysIn_84 (by assumption) (by omega) (by omega) ?_
          refine V.il1 g0 d_X4_daysIn_85 ?_
          refine V.icmpne g0 d_X4_daysIn_86 (by omega) (fun c_86 => ?_) (fun c_86 => ?_)
          · skip
            refine V.inc5 g0 d_X4_daysIn_108 ?_
            refine V.goto g0 d_X4_daysIn_111 ?_
            refine V.weak2 (ih (f - 1) (by omega) (i + 1) _ (by omega) ?_) (lcLe_s (lcLe_s (lcLe_s (lcLe_s (lcLe_s (lcLe_s (lcLe_f (lcLe_f lcLe_n))))))))
            show _ = dSum dy pl k c x u i + dTerm dy pl k c x u i
            rw [hz]
            unfold dTerm dFst dLst
            repeat' split
            all_goals omega
          · skip
            refine V.il6 g0 d_X4_daysIn_89 ?_
            refine V.il7 g0 d_X4_daysIn_91 ?_
            refine V.icmpgt g0 d_X4_daysIn_93 (by omega) (fun c_93 => ?_) (fun c_93 => ?_)
            · skip
              refine V.inc5 g0 d_X4_daysIn_108 ?_
              refine V.goto g0 d_X4_daysIn_111 ?_
              refine V.weak2 (ih (f - 1) (by omega) (i + 1) _ (by omega) ?_) (lcLe_s (lcLe_s (lcLe_s (lcLe_s (lcLe_s (lcLe_s (lcLe_f (lcLe_f lcLe_n))))))))
              show _ = dSum dy pl k c x u i + dTerm dy pl k c x u i
              rw [hz]
              unfold dTerm dFst dLst
              repeat' split
              all_goals omega
            · skip
              refine V.il4 g0 d_X4_daysIn_96 ?_
              refine V.il7 g0 d_X4_daysIn_98 ?_
              refine V.il6 g0 d_X4_daysIn_100 ?_
              refine V.isub g0 d_X4_daysIn_102 ?_
              refine V.iconst g0 d_X4_daysIn_103 ?_
              refine V.iadd g0 d_X4_daysIn_104 ?_
              refine V.iadd g0 d_X4_daysIn_105 ?_
              refine V.is4 g0 d_X4_daysIn_106 ?_
              refine V.inc5 g0 d_X4_daysIn_108 ?_
              refine V.goto g0 d_X4_daysIn_111 ?_
              refine V.weak2 (ih (f - 1) (by omega) (i + 1) _ (by omega) ?_) (lcLe_s (lcLe_s (lcLe_s (lcLe_s (lcLe_s (lcLe_s (lcLe_f (lcLe_f lcLe_n))))))))
              show _ = dSum dy pl k c x u i + dTerm dy pl k c x u i
              rw [hz]
              unfold dTerm dFst dLst
              repeat' split
              all_goals omega
        · skip
          have hb2 := ho.2 ((i : Int) + 1) (by omega) (by omega)
          refine V.al0 g0 d_X4_daysIn_48 ?_
          refine V.getf g0 d_X4_daysIn_49 fl_X4_15 (by assumption) (by rfl) ?_
          refine V.il5 g0 d_X4_daysIn_52 ?_
          refine V.iconst g0 d_X4_daysIn_54 ?_
          refine V.iadd g0 d_X4_daysIn_55 ?_
          refine V.iald g0 d_X4_daysIn_56 (by assumption) (by omega) (by omega) ?_
          refine V.il3 g0 d_X4_daysIn_57 ?_
          refine V.icmpgt g0 d_X4_daysIn_58 (by omega) (fun c_58 => ?_) (fun c_58 => ?_)
          · skip
            refine V.il3 g0 d_X4_daysIn_75 ?_
            refine V.is7 g0 d_X4_daysIn_76 ?_
            refine V.al0 g0 d_X4_daysIn_78 ?_
            refine V.getf g0 d_X4_daysIn_79 fl_X4_21 (by assumption) (by rfl) ?_
            refine V.il5 g0 d_X4_daysIn_82 ?_
            refine V.iald g0 d_X4_daysIn_84 (by assumption) (by omega) (by omega) ?_
            refine V.il1 g0 d_X4_daysIn_85 ?_
            refine V.icmpne g0 d_X4_daysIn_86 (by omega) (fun c_86 => ?_) (fun c_86 => ?_)
            · skip
              refine V.inc5 g0 d_X4_daysIn_108 ?_
              refine V.goto g0 d_X4_daysIn_111 ?_
              refine V.weak2 (ih (f - 1) (by omega) (i + 1) _ (by omega) ?_) (lcLe_s (lcLe_s (lcLe_s (lcLe_s (lcLe_s (lcLe_s (lcLe_f (lcLe_f lcLe_n))))))))
              show _ = dSum dy pl k c x u i + dTerm dy pl k c x u i
              rw [hz]
              unfold dTerm dFst dLst
              repeat' split
              all_goals omega
            · skip
              refine V.il6 g0 d_X4_daysIn_89 ?_
              refine V.il7 g0 d_X4_daysIn_91 ?_
              refine V.icmpgt g0 d_X4_daysIn_93 (by omega) (fun c_93 => ?_) (fun c_93 => ?_)
              · skip
                refine V.inc5 g0 d_X4_daysIn_108 ?_
                refine V.goto g0 d_X4_daysIn_111 ?_
                refine V.weak2 (ih (f - 1) (by omega) (i + 1) _ (by omega) ?_) (lcLe_s (lcLe_s (lcLe_s (lcLe_s (lcLe_s (lcLe_s (lcLe_f (lcLe_f lcLe_n))))))))
                show _ = dSum dy pl k c x u i + dTerm dy pl k c x u i
                rw [hz]
                unfold dTerm dFst dLst
                repeat' split
                all_goals omega
              · skip
                refine V.il4 g0 d_X4_daysIn_96 ?_
                refine V.il7 g0 d_X4_daysIn_98 ?_
                refine V.il6 g0 d_X4_daysIn_100 ?_
                refine V.isub g0 d_X4_daysIn_102 ?_
                refine V.iconst g0 d_X4_daysIn_103 ?_
                refine V.iadd g0 d_X4_daysIn_104 ?_
                refine V.iadd g0 d_X4_daysIn_105 ?_
                refine V.is4 g0 d_X4_daysIn_106 ?_
                refine V.inc5 g0 d_X4_daysIn_108 ?_
                refine V.goto g0 d_X4_daysIn_111 ?_
                refine V.weak2 (ih (f - 1) (by omega) (i + 1) _ (by omega) ?_) (lcLe_s (lcLe_s (lcLe_s (lcLe_s (lcLe_s (lcLe_s (lcLe_f (lcLe_f lcLe_n))))))))
                show _ = dSum dy pl k c x u i + dTerm dy pl k c x u i
                rw [hz]
                unfold dTerm dFst dLst
                repeat' split
                all_goals omega
          · skip
            refine V.al0 g0 d_X4_daysIn_61 ?_
            refine V.getf g0 d_X4_daysIn_62 fl_X4_15 (by assumption) (by rfl) ?_
            refine V.il5 g0 d_X4_daysIn_65 ?_
            refine V.iconst g0 d_X4_daysIn_67 ?_
            refine V.iadd g0 d_X4_daysIn_68 ?_
            refine V.iald g0 d_X4_daysIn_69 (by assumption) (by omega) (by omega) ?_
            refine V.iconst g0 d_X4_daysIn_70 ?_
            refine V.isub g0 d_X4_daysIn_71 ?_
            refine V.goto g0 d_X4_daysIn_72 ?_
            refine V.is7 g0 d_X4_daysIn_76 ?_
            refine V.al0 g0 d_X4_daysIn_78 ?_
            refine V.getf g0 d_X4_daysIn_79 fl_X4_21 (by assumption) (by rfl) ?_
            refine V.il5 g0 d_X4_daysIn_82 ?_
            refine V.iald g0 d_X4_daysIn_84 (by assumption) (by omega) (by omega) ?_
            refine V.il1 g0 d_X4_daysIn_85 ?_
            refine V.icmpne g0 d_X4_daysIn_86 (by omega) (fun c_86 => ?_) (fun c_86 => ?_)
            · skip
              refine V.inc5 g0 d_X4_daysIn_108 ?_
              refine V.goto g0 d_X4_daysIn_111 ?_
              refine V.weak2 (ih (f - 1) (by omega) (i + 1) _ (by omega) ?_) (lcLe_s (lcLe_s (lcLe_s (lcLe_s (lcLe_s (lcLe_s (lcLe_f (lcLe_f lcLe_n))))))))
              show _ = dSum dy pl k c x u i + dTerm dy pl k c x u i
              rw [hz]
              unfold dTerm dFst dLst
              repeat' split
              all_goals omega
            · skip
              refine V.il6 g0 d_X4_daysIn_89 ?_
              refine V.il7 g0 d_X4_daysIn_91 ?_
              refine V.icmpgt g0 d_X4_daysIn_93 (by omega) (fun c_93 => ?_) (fun c_93 => ?_)
              · skip
                refine V.inc5 g0 d_X4_daysIn_108 ?_
                refine V.goto g0 d_X4_daysIn_111 ?_
                refine V.weak2 (ih (f - 1) (by omega) (i + 1) _ (by omega) ?_) (lcLe_s (lcLe_s (lcLe_s (lcLe_s (lcLe_s (lcLe_s (lcLe_f (lcLe_f lcLe_n))))))))
                show _ = dSum dy pl k c x u i + dTerm dy pl k c x u i
                rw [hz]
                unfold dTerm dFst dLst
                repeat' split
                all_goals omega
              · skip
                refine V.il4 g0 d_X4_daysIn_96 ?_
                refine V.il7 g0 d_X4_daysIn_98 ?_
                refine V.il6 g0 d_X4_daysIn_100 ?_
                refine V.isub g0 d_X4_daysIn_102 ?_
                refine V.iconst g0 d_X4_daysIn_103 ?_
                refine V.iadd g0 d_X4_daysIn_104 ?_
                refine V.iadd g0 d_X4_daysIn_105 ?_
                refine V.is4 g0 d_X4_daysIn_106 ?_
                refine V.inc5 g0 d_X4_daysIn_108 ?_
                refine V.goto g0 d_X4_daysIn_111 ?_
                refine V.weak2 (ih (f - 1) (by omega) (i + 1) _ (by omega) ?_) (lcLe_s (lcLe_s (lcLe_s (lcLe_s (lcLe_s (lcLe_s (lcLe_f (lcLe_f lcLe_n))))))))
                show _ = dSum dy pl k c x u i + dTerm dy pl k c x u i
                rw [hz]
                unfold dTerm dFst dLst
                repeat' split
                all_goals omega
  exact LP (k + 1).toNat 0 0 (by omega) rfl

theorem d_X4_copyFrom_0 : Dc cX4_copyFrom 0 1 1 (.aload_n 1) := ⟨by decide +kernel, rfl⟩
theorem d_X4_copyFrom_1 : Dc cX4_copyFrom 1 3 4 (.getfield 24) := ⟨by decide +kernel, rfl⟩
theorem d_X4_copyFrom_4 : Dc cX4_copyFrom 4 1 5 (.iconst 1) := ⟨by decide +kernel, rfl⟩
theorem d_X4_copyFrom_5 : Dc cX4_copyFrom 5 1 6 .iadd := ⟨by decide +kernel, rfl⟩
theorem d_X4_copyFrom_6 : Dc cX4_copyFrom 6 1 7 (.aload_n 0) := ⟨by decide +kernel, rfl⟩
theorem d_X4_copyFrom_7 : Dc cX4_copyFrom 7 3 10 (.getfield 15) := ⟨by decide +kernel, rfl⟩
theorem d_X4_copyFrom_10 : Dc cX4_copyFrom 10 1 11 .arraylength := ⟨by decide +kernel, rfl⟩
theorem d_X4_copyFrom_11 : Dc cX4_copyFrom 11 1 12 (.aload_n 1) := ⟨by decide +kernel, rfl⟩
theorem d_X4_copyFrom_12 : Dc cX4_copyFrom 12 3 15 (.getfield 15) := ⟨by decide +kernel, rfl⟩
theorem d_X4_copyFrom_15 : Dc cX4_copyFrom 15 1 16 .arraylength := ⟨by decide +kernel, rfl⟩
theorem d_X4_copyFrom_16 : Dc cX4_copyFrom 16 3 19 (.invokestatic 28) := ⟨by decide +kernel, rfl⟩
theorem d_X4_copyFrom_19 : Dc cX4_copyFrom 19 3 22 (.invokestatic 28) := ⟨by decide +kernel, rfl⟩
theorem d_X4_copyFrom_22 : Dc cX4_copyFrom 22 1 23 (.istore_n 2) := ⟨by decide +kernel, rfl⟩
theorem d_X4_copyFrom_23 : Dc cX4_copyFrom 23 1 24 (.aload_n 1) := ⟨by decide +kernel, rfl⟩
theorem d_X4_copyFrom_24 : Dc cX4_copyFrom 24 3 27 (.getfield 15) := ⟨by decide +kernel, rfl⟩
theorem d_X4_copyFrom_27 : Dc cX4_copyFrom 27 1 28 (.iconst 0) := ⟨by decide +kernel, rfl⟩
theorem d_X4_copyFrom_28 : Dc cX4_copyFrom 28 1 29 (.aload_n 0) := ⟨by decide +kernel, rfl⟩
theorem d_X4_copyFrom_29 : Dc cX4_copyFrom 29 3 32 (.getfield 15) := ⟨by decide +kernel, rfl⟩
theorem d_X4_copyFrom_32 : Dc cX4_copyFrom 32 1 33 (.iconst 0) := ⟨by decide +kernel, rfl⟩
theorem d_X4_copyFrom_33 : Dc cX4_copyFrom 33 1 34 (.iload_n 2) := ⟨by decide +kernel, rfl⟩
theorem d_X4_copyFrom_34 : Dc cX4_copyFrom 34 3 37 (.invokestatic 31) := ⟨by decide +kernel, rfl⟩
theorem d_X4_copyFrom_37 : Dc cX4_copyFrom 37 1 38 (.aload_n 1) := ⟨by decide +kernel, rfl⟩
theorem d_X4_copyFrom_38 : Dc cX4_copyFrom 38 3 41 (.getfield 21) := ⟨by decide +kernel, rfl⟩
theorem d_X4_copyFrom_41 : Dc cX4_copyFrom 41 1 42 (.iconst 0) := ⟨by decide +kernel, rfl⟩
theorem d_X4_copyFrom_42 : Dc cX4_copyFrom 42 1 43 (.aload_n 0) := ⟨by decide +kernel, rfl⟩
theorem d_X4_copyFrom_43 : Dc cX4_copyFrom 43 3 46 (.getfield 21) := ⟨by decide +kernel, rfl⟩
theorem d_X4_copyFrom_46 : Dc cX4_copyFrom 46 1 47 (.iconst 0) := ⟨by decide +kernel, rfl⟩
theorem d_X4_copyFrom_47 : Dc cX4_copyFrom 47 1 48 (.iload_n 2) := ⟨by decide +kernel, rfl⟩
theorem d_X4_copyFrom_48 : Dc cX4_copyFrom 48 3 51 (.invokestatic 31) := ⟨by decide +kernel, rfl⟩
theorem d_X4_copyFrom_51 : Dc cX4_copyFrom 51 1 52 (.aload_n 0) := ⟨by decide +kernel, rfl⟩
theorem d_X4_copyFrom_52 : Dc cX4_copyFrom 52 1 53 (.iload_n 2) := ⟨by decide +kernel, rfl⟩
theorem d_X4_copyFrom_53 : Dc cX4_copyFrom 53 1 54 (.iconst 1) := ⟨by decide +kernel, rfl⟩
theorem d_X4_copyFrom_54 : Dc cX4_copyFrom 54 1 55 .isub := ⟨by decide +kernel, rfl⟩
theorem d_X4_copyFrom_55 : Dc cX4_copyFrom 55 3 58 (.putfield 24) := ⟨by decide +kernel, rfl⟩
theorem d_X4_copyFrom_58 : decode cX4_copyFrom 58 = .ok (.return_, 1) := by decide +kernel
set_option maxHeartbeats 4000000 in
set_option maxRecDepth 20000 in
theorem c_X4_copyFrom {E : Ev} {n : Nat} {M : Mem} {m b N : Nat} {dy pl dy2 pl2 : Int → Int} {k k2 : Int} (hT : TrM E M m N dy pl k) (hB : TrM E M b N dy2 pl2 k2) (hk : 0 ≤ k2 ∧ k2 < N) (hN : N < 100) (hd : b + 3 ≤ m ∨ m + 3 ≤ b) : MT E yX4_copyFrom cX4_copyFrom 3 none 2 0 0 [.ref m, .ref b] n M ((PF none n (trU E M m N (cp0 dy2 dy (k2 + 1)) (cp0 pl2 pl (k2 + 1)) (k2)))) := by
  refine MT.of (by decide) rfl (Nat.le_of_ble_eq_true rfl) ?_
  intro X g
  have g0 := g.1
  show V E X 0 0 n M 0 [some (.ref m), some (.ref b), none] []
  have b0 : trU E M m N dy pl k b = .inr (4, [.ref (b + 1), .ref (b + 2), .int (iI k2)]) := (ov_n (by omega)).trans hB.h0
  have b1 : trU E M m N dy pl k (b + 1) = ia E N dy2 := (ov_n (by omega)).trans hB.h1
  have b2 : trU E M m N (cp0 dy2 dy (k2 + 1)) pl k (b + 2) = ia E N pl2 := (ov_n (by omega)).trans hB.h2
  have b3 : trU E M m N (cp0 dy2 dy (k2 + 1)) pl k b = .inr (4, [.ref (b + 1), .ref (b + 2), .int (iI k2)]) := (ov_n (by omega)).trans hB.h0
  refine V.eqM (tr_id hT).symm ?_
  refine V.al1 g0 d_X4_copyFrom_0 ?_
  refine V.getf g0 d_X4_copyFrom_1 fl_X4_24 (by first | exact tr_0 | exact tr_1 | exact tr_2 | assumption) (by rfl) ?_
  refine V.iconst g0 d_X4_copyFrom_4 ?_
  refine V.iadd g0 d_X4_copyFrom_5 ?_
  refine V.al0 g0 d_X4_copyFrom_6 ?_
  refine V.getf g0 d_X4_copyFrom_7 fl_X4_15 (by first | exact tr_0 | exact tr_1 | exact tr_2 | assumption) (by rfl) ?_
  refine V.alen_ia g0 d_X4_copyFrom_10 (by first | exact tr_0 | exact tr_1 | exact tr_2 | assumption) ?_
  refine V.al1 g0 d_X4_copyFrom_11 ?_
  refine V.getf g0 d_X4_copyFrom_12 fl_X4_15 (by first | exact tr_0 | exact tr_1 | exact tr_2 | assumption) (by rfl) ?_
  refine V.alen_ia g0 d_X4_copyFrom_15 (by first | exact tr_0 | exact tr_1 | exact tr_2 | assumption) ?_
  refine V.callSp g0 (c_J9_min_7cf53 (by constructor <;> omega) (by constructor <;> omega)) ky_J9_min_7cf53 ks_J9_min_7cf53 lk_X4_28 (Nat.le_of_ble_eq_true rfl) ⟨Nat.zero_le _, Nat.zero_le _⟩ rfl rfl (Nat.le_of_ble_eq_true rfl) d_X4_copyFrom_16 ?_
  refine V.callSp g0 (c_J9_min_7cf53 (by constructor <;> omega) (by constructor <;> omega)) ky_J9_min_7cf53 ks_J9_min_7cf53 lk_X4_28 (Nat.le_of_ble_eq_true rfl) ⟨Nat.zero_le _, Nat.zero_le _⟩ rfl rfl (Nat.le_of_ble_eq_true rfl) d_X4_copyFrom_19 ?_
  rw [show min (k2 + 1) (min (N : Int) N) = k2 + 1 by omega]
  refine V.is2 g0 d_X4_copyFrom_22 ?_
  refine V.al1 g0 d_X4_copyFrom_23 ?_
  refine V.getf g0 d_X4_copyFrom_24 fl_X4_15 (by first | exact tr_0 | exact tr_1 | exact tr_2 | assumption) (by rfl) ?_
  refine V.iconst g0 d_X4_copyFrom_27 ?_
  refine V.al0 g0 d_X4_copyFrom_28 ?_
  refine V.getf g0 d_X4_copyFrom_29 fl_X4_15 (by first | exact tr_0 | exact tr_1 | exact tr_2 | assumption) (by rfl) ?_
  refine V.iconst g0 d_X4_copyFrom_32 ?_
  refine V.il2 g0 d_X4_copyFrom_33 ?_
  refine V.acopy g0 d_X4_copyFrom_34 lk_X4_31 cp_nat cp_st cp_ini b1 tr_1 (by omega) (by omega) (by omega) (by decide) (Nat.le_of_ble_eq_true rfl) ?_
  refine V.eqM tr_u1 ?_
  refine V.al1 g0 d_X4_copyFrom_37 ?_
  refine V.getf g0 d_X4_copyFrom_38 fl_X4_21 (by first | exact tr_0 | exact tr_1 | exact tr_2 | assumption) (by rfl) ?_
  refine V.iconst g0 d_X4_copyFrom_41 ?_
  refine V.al0 g0 d_X4_copyFrom_42 ?_
  refine V.getf g0 d_X4_copyFrom_43 fl_X4_21 (by first | exact tr_0 | exact tr_1 | exact tr_2 | assumption) (by rfl) ?_
  refine V.iconst g0 d_X4_copyFrom_46 ?_
  refine V.il2 g0 d_X4_copyFrom_47 ?_
  refine V.acopy g0 d_X4_copyFrom_48 lk_X4_31 cp_nat cp_st cp_ini b2 tr_2 (by omega) (by omega) (by omega) (by decide) (Nat.le_of_ble_eq_true rfl) ?_
  refine V.eqM tr_u2 ?_
  refine V.al0 g0 d_X4_copyFrom_51 ?_
  refine V.il2 g0 d_X4_copyFrom_52 ?_
  refine V.iconst g0 d_X4_copyFrom_53 ?_
  refine V.isub g0 d_X4_copyFrom_54 ?_
  refine V.putf g0 d_X4_copyFrom_55 fp_X4_24 (by first | exact tr_0 | exact tr_1 | exact tr_2 | assumption) (Nat.le_of_ble_eq_true rfl) rfl rfl ?_
  refine V.eqM tr_u0 ?_
  rw [show k2 + 1 - 1 = k2 by omega]
  refine V.vret g d_X4_copyFrom_58 (Nat.zero_le _) (Nat.zero_le _) ?_
  exact ⟨rfl, rfl, rfl⟩

theorem d_X5_isValidOn_0 : Dc cX5_isValidOn 0 1 1 (.iload_n 1) := ⟨by decide +kernel, rfl⟩
theorem d_X5_isValidOn_1 : Dc cX5_isValidOn 1 1 2 (.aload_n 0) := ⟨by decide +kernel, rfl⟩
theorem d_X5_isValidOn_2 : Dc cX5_isValidOn 2 3 5 (.getfield 13) := ⟨by decide +kernel, rfl⟩
theorem d_X5_isValidOn_5 : Dc cX5_isValidOn 5 1 6 (.aload_n 0) := ⟨by decide +kernel, rfl⟩
theorem d_X5_isValidOn_6 : Dc cX5_isValidOn 6 3 9 (.getfield 16) := ⟨by decide +kernel, rfl⟩
theorem d_X5_isValidOn_9 : Dc cX5_isValidOn 9 3 12 (.invokestatic 22) := ⟨by decide +kernel, rfl⟩
theorem d_X5_isValidOn_12 : decode cX5_isValidOn 12 = .ok (.ireturn, 1) := by decide +kernel
set_option maxHeartbeats 4000000 in
set_option maxRecDepth 20000 in
theorem c_X5_isValidOn {E : Ev} {n : Nat} {M : Mem} {m : Nat} {c x u d : Int} (hV : M m = viC c x u d) (h1 : rg x) (h2 : rg u) {t : Int} (h3 : rg t) : MT E yX5_isValidOn cX5_isValidOn 2 (some .boolean) 1 0 0 [.ref m, .int (iI t)] n M (PF (some (.int (iI (bI (x ≤ t ∧ t ≤ u))))) n (M)) := by
  refine MT.of (by decide) rfl (Nat.le_of_ble_eq_true rfl) ?_
  intro X g
  have g0 := g.1
  show V E X 0 0 n M 0 [some (.ref m), some (.int (iI t))] []
  refine V.il1 g0 d_X5_isValidOn_0 ?_
  refine V.al0 g0 d_X5_isValidOn_1 ?_
  refine V.getf g0 d_X5_isValidOn_2 fl_X5_13 hV (by rfl) ?_
  refine V.al0 g0 d_X5_isValidOn_5 ?_
  refine V.getf g0 d_X5_isValidOn_6 fl_X5_16 hV (by rfl) ?_
  refine V.callSNp g0 (c_X6_isWithin h3 h1 h2) ky_X6_isWithin ks_X6_isWithin lk_X5_22 (Nat.le_of_ble_eq_true rfl) ⟨Nat.zero_le _, Nat.zero_le _⟩ rfl rfl (Nat.le_of_ble_eq_true rfl) d_X5_isValidOn_9 ?_
  refine V.zret g d_X5_isValidOn_12 (by first | exact Or.inl rfl | exact Or.inr rfl | exact bI_01 _) (Nat.zero_le _) (Nat.zero_le _) ⟨congrArg (fun z => some (Value.int (iI z))) ?_, rfl, rfl⟩
  rfl
