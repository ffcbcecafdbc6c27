theorem d_X7_in_0 : Dc cX7_in 0 1 1 (.iload_n 0) := ⟨by decide +kernel, rfl⟩
theorem d_X7_in_1 : Dc cX7_in 1 1 2 (.iload_n 1) := ⟨by decide +kernel, rfl⟩
theorem d_X7_in_2 : Dj cX7_in 2 5 14 (.if_icmp .lt) := ⟨12, by decide +kernel, rfl, by decide⟩
theorem d_X7_in_5 : Dc cX7_in 5 1 6 (.iload_n 0) := ⟨by decide +kernel, rfl⟩
theorem d_X7_in_6 : Dc cX7_in 6 1 7 (.iload_n 2) := ⟨by decide +kernel, rfl⟩
theorem d_X7_in_7 : Dj cX7_in 7 10 14 (.if_icmp .gt) := ⟨7, by decide +kernel, rfl, by decide⟩
theorem d_X7_in_10 : Dc cX7_in 10 1 11 (.iconst 1) := ⟨by decide +kernel, rfl⟩
theorem d_X7_in_11 : Dj cX7_in 11 14 15 .goto := ⟨4, by decide +kernel, rfl, by decide⟩
theorem d_X7_in_14 : Dc cX7_in 14 1 15 (.iconst 0) := ⟨by decide +kernel, rfl⟩
theorem d_X7_in_15 : decode cX7_in 15 = .ok (.ireturn, 1) := by decide +kernel
set_option maxHeartbeats 4000000 in
set_option maxRecDepth 20000 in
theorem c_X7_in {E : Ev} {n : Nat} {M : Mem} {v lo hi : Int} (h1 : rg v) (h2 : rg lo) (h3 : rg hi) : MT E yX7_in cX7_in 3 (some .boolean) 0 0 0 [.int (iI v), .int (iI lo), .int (iI hi)] n M (PF (some (.int (iI (bI (lo ≤ v ∧ v ≤ hi))))) n M) := by
  refine MT.of (by decide) rfl (Nat.le_of_ble_eq_true rfl) ?_
  intro X g
  have g0 := g.1
  show V E X 0 0 n M 0 [some (.int (iI v)), some (.int (iI lo)), some (.int (iI hi))] []
  refine V.il0 g0 d_X7_in_0 ?_
  refine V.il1 g0 d_X7_in_1 ?_
  refine V.icmplt g0 d_X7_in_2 (by omega) (fun c_2 => ?_) (fun c_2 => ?_)
  · skip
    refine V.iconst g0 d_X7_in_14 ?_
    refine V.zret g d_X7_in_15 (by first | exact Or.inl rfl | exact Or.inr rfl | exact bI_01 _) (Nat.zero_le _) (Nat.zero_le _) ⟨congrArg (fun z => some (Value.int (iI z))) ?_, rfl, rfl⟩
    first | exact (bI_t (by omega)).symm | exact (bI_f (by omega)).symm | exact bI_e (by omega) | rfl
  · skip
    refine V.il0 g0 d_X7_in_5 ?_
    refine V.il2 g0 d_X7_in_6 ?_
    refine V.icmpgt g0 d_X7_in_7 (by omega) (fun c_7 => ?_) (fun c_7 => ?_)
    · skip
      refine V.iconst g0 d_X7_in_14 ?_
      refine V.zret g d_X7_in_15 (by first | exact Or.inl rfl | exact Or.inr rfl | exact bI_01 _) (Nat.zero_le _) (Nat.zero_le _) ⟨congrArg (fun z => some (Value.int (iI z))) ?_, rfl, rfl⟩
      first | exact (bI_t (by omega)).symm | exact (bI_f (by omega)).symm | exact bI_e (by omega) | rfl
    · skip
      refine V.iconst g0 d_X7_in_10 ?_
      refine V.goto g0 d_X7_in_11 ?_
      refine V.zret g d_X7_in_15 (by first | exact Or.inl rfl | exact Or.inr rfl | exact bI_01 _) (Nat.zero_le _) (Nat.zero_le _) ⟨congrArg (fun z => some (Value.int (iI z))) ?_, rfl, rfl⟩
      first | exact (bI_t (by omega)).symm | exact (bI_f (by omega)).symm | exact bI_e (by omega) | rfl

theorem d_X7_isCountry_0 : Dc cX7_isCountry 0 1 1 (.iload_n 0) := ⟨by decide +kernel, rfl⟩
theorem d_X7_isCountry_1 : Dc cX7_isCountry 1 1 2 (.iconst 0) := ⟨by decide +kernel, rfl⟩
theorem d_X7_isCountry_2 : Dc cX7_isCountry 2 1 3 (.iconst 5) := ⟨by decide +kernel, rfl⟩
theorem d_X7_isCountry_3 : Dc cX7_isCountry 3 3 6 (.invokestatic 32) := ⟨by decide +kernel, rfl⟩
theorem d_X7_isCountry_6 : decode cX7_isCountry 6 = .ok (.ireturn, 1) := by decide +kernel
set_option maxHeartbeats 4000000 in
set_option maxRecDepth 20000 in
theorem c_X7_isCountry {E : Ev} {n : Nat} {M : Mem} {c : Int} (h1 : rg c) : MT E yX7_isCountry cX7_isCountry 1 (some .boolean) 1 0 0 [.int (iI c)] n M (PF (some (.int (iI (bI (0 ≤ c ∧ c ≤ 5))))) n M) := by
  refine MT.of (by decide) rfl (Nat.le_of_ble_eq_true rfl) ?_
  intro X g
  have g0 := g.1
  show V E X 0 0 n M 0 [some (.int (iI c))] []
  refine V.il0 g0 d_X7_isCountry_0 ?_
  refine V.iconst g0 d_X7_isCountry_1 ?_
  refine V.iconst g0 d_X7_isCountry_2 ?_
  refine V.callSp g0 (c_X7_in h1 (by decide) (by decide)) ky_X7_in ks_X7_in lk_X7_32 (Nat.le_of_ble_eq_true rfl) ⟨Nat.zero_le _, Nat.zero_le _⟩ rfl rfl (Nat.le_of_ble_eq_true rfl) d_X7_isCountry_3 ?_
  refine V.zret g d_X7_isCountry_6 (by first | exact Or.inl rfl | exact Or.inr rfl | exact bI_01 _) (Nat.zero_le _) (Nat.zero_le _) ⟨congrArg (fun z => some (Value.int (iI z))) ?_, rfl, rfl⟩
  first | exact (bI_t (by omega)).symm | exact (bI_f (by omega)).symm | exact bI_e (by omega) | rfl

theorem d_X7_isPassport_0 : Dc cX7_isPassport 0 1 1 (.iload_n 1) := ⟨by decide +kernel, rfl⟩
theorem d_X7_isPassport_1 : Dc cX7_isPassport 1 1 2 (.iconst 0) := ⟨by decide +kernel, rfl⟩
theorem d_X7_isPassport_2 : Dc cX7_isPassport 2 1 3 (.aload_n 0) := ⟨by decide +kernel, rfl⟩
theorem d_X7_isPassport_3 : Dc cX7_isPassport 3 3 6 (.getfield 7) := ⟨by decide +kernel, rfl⟩
theorem d_X7_isPassport_6 : Dc cX7_isPassport 6 3 9 (.sipush 619) := ⟨by decide +kernel, rfl⟩
theorem d_X7_isPassport_9 : Dc cX7_isPassport 9 1 10 .iaload := ⟨by decide +kernel, rfl⟩
theorem d_X7_isPassport_10 : Dc cX7_isPassport 10 1 11 (.iconst 1) := ⟨by decide +kernel, rfl⟩
theorem d_X7_isPassport_11 : Dc cX7_isPassport 11 1 12 .isub := ⟨by decide +kernel, rfl⟩
theorem d_X7_isPassport_12 : Dc cX7_isPassport 12 3 15 (.invokestatic 32) := ⟨by decide +kernel, rfl⟩
theorem d_X7_isPassport_15 : decode cX7_isPassport 15 = .ok (.ireturn, 1) := by decide +kernel
set_option maxHeartbeats 4000000 in
set_option maxRecDepth 20000 in
theorem c_X7_isPassport {E : Ev} {n : Nat} {M : Mem} {m : Nat} {s : Int → Int} (hs : MS E M m s) {p : Int} (h1 : rg p) (hk : 0 ≤ s 619 ∧ s 619 ≤ 6) : MT E yX7_isPassport cX7_isPassport 2 (some .boolean) 1 0 0 [.ref m, .int (iI p)] n M (PF (some (.int (iI (bI (0 ≤ p ∧ p ≤ s 619 - 1))))) n M) := by
  refine MT.of (by decide) rfl (Nat.le_of_ble_eq_true rfl) ?_
  intro X g
  have g0 := g.1
  show V E X 0 0 n M 0 [some (.ref m), some (.int (iI p))] []
  obtain ⟨⟨fr, hm⟩, ha⟩ := id hs
  refine V.il1 g0 d_X7_isPassport_0 ?_
  refine V.iconst g0 d_X7_isPassport_1 ?_
  refine V.al0 g0 d_X7_isPassport_2 ?_
  refine V.getf g0 d_X7_isPassport_3 fl_X7_7 (by assumption) (by rfl) ?_
  refine V.sipush g0 d_X7_isPassport_6 (by decide) ?_
  refine V.iald g0 d_X7_isPassport_9 (by assumption) (by omega) (by decide) ?_
  refine V.iconst g0 d_X7_isPassport_10 ?_
  refine V.isub g0 d_X7_isPassport_11 ?_
  refine V.callSp g0 (c_X7_in h1 (by decide) (by omega)) ky_X7_in ks_X7_in lk_X7_32 (Nat.le_of_ble_eq_true rfl) ⟨Nat.zero_le _, Nat.zero_le _⟩ rfl rfl (Nat.le_of_ble_eq_true rfl) d_X7_isPassport_12 ?_
  refine V.zret g d_X7_isPassport_15 (by first | exact Or.inl rfl | exact Or.inr rfl | exact bI_01 _) (Nat.zero_le _) (Nat.zero_le _) ⟨congrArg (fun z => some (Value.int (iI z))) ?_, rfl, rfl⟩
  first | exact (bI_t (by omega)).symm | exact (bI_f (by omega)).symm | exact bI_e (by omega) | rfl

theorem d_X7_areThere_0 : Dc cX7_areThere 0 1 1 (.aload_n 0) := ⟨by decide +kernel, rfl⟩
theorem d_X7_areThere_1 : Dc cX7_areThere 1 1 2 (.iload_n 1) := ⟨by decide +kernel, rfl⟩
theorem d_X7_areThere_2 : Dc cX7_areThere 2 3 5 (.invokevirtual 36) := ⟨by decide +kernel, rfl⟩
theorem d_X7_areThere_5 : Dj cX7_areThere 5 8 19 (.ifCond .eq) := ⟨14, by decide +kernel, rfl, by decide⟩
theorem d_X7_areThere_8 : Dc cX7_areThere 8 1 9 (.iload_n 2) := ⟨by decide +kernel, rfl⟩
theorem d_X7_areThere_9 : Dc cX7_areThere 9 3 12 (.invokestatic 40) := ⟨by decide +kernel, rfl⟩
theorem d_X7_areThere_12 : Dj cX7_areThere 12 15 19 (.ifCond .eq) := ⟨7, by decide +kernel, rfl, by decide⟩
theorem d_X7_areThere_15 : Dc cX7_areThere 15 1 16 (.iconst 1) := ⟨by decide +kernel, rfl⟩
theorem d_X7_areThere_16 : Dj cX7_areThere 16 19 20 .goto := ⟨4, by decide +kernel, rfl, by decide⟩
theorem d_X7_areThere_19 : Dc cX7_areThere 19 1 20 (.iconst 0) := ⟨by decide +kernel, rfl⟩
theorem d_X7_areThere_20 : decode cX7_areThere 20 = .ok (.ireturn, 1) := by decide +kernel
set_option maxHeartbeats 4000000 in
set_option maxRecDepth 20000 in
theorem c_X7_areThere {E : Ev} {n : Nat} {M : Mem} {m : Nat} {s : Int → Int} (hs : MS E M m s) {p c : Int} (h1 : rg p) (h2 : rg c) (hk : 0 ≤ s 619 ∧ s 619 ≤ 6) : MT E yX7_areThere cX7_areThere 3 (some .boolean) 2 0 0 [.ref m, .int (iI p), .int (iI c)] n M (PF (some (.int (iI (bI ((0 ≤ p ∧ p ≤ s 619 - 1) ∧ (0 ≤ c ∧ c ≤ 5)))))) n M) := by
  refine MT.of (by decide) rfl (Nat.le_of_ble_eq_true rfl) ?_
  intro X g
  have g0 := g.1
  show V E X 0 0 n M 0 [some (.ref m), some (.int (iI p)), some (.int (iI c))] []
  obtain ⟨⟨fr, hm⟩, ha⟩ := id hs
  refine V.al0 g0 d_X7_areThere_0 ?_
  refine V.il1 g0 d_X7_areThere_1 ?_
  refine V.callVp g0 (c_X7_isPassport hs h1 hk) ky_X7_isPassport ki_X7_isPassport ks2_X7_isPassport lk_X7_36 (by assumption) rfl rfl (Nat.le_of_ble_eq_true rfl) ⟨Nat.zero_le _, Nat.zero_le _⟩ rfl rfl (Nat.le_of_ble_eq_true rfl) d_X7_areThere_2 ?_
  refine V.ifeqB g0 d_X7_areThere_5 (fun c_5 => ?_) (fun c_5 => ?_)
  · skip
    refine V.iconst g0 d_X7_areThere_19 ?_
    refine V.zret g d_X7_areThere_20 (by first | exact Or.inl rfl | exact Or.inr rfl | exact bI_01 _) (Nat.zero_le _) (Nat.zero_le _) ⟨congrArg (fun z => some (Value.int (iI z))) ?_, rfl, rfl⟩
    first | exact (bI_t (by omega)).symm | exact (bI_f (by omega)).symm | exact bI_e (by omega) | rfl
  · skip
    refine V.il2 g0 d_X7_areThere_8 ?_
    refine V.callSp g0 (c_X7_isCountry h2) ky_X7_isCountry ks_X7_isCountry lk_X7_40 (Nat.le_of_ble_eq_true rfl) ⟨Nat.zero_le _, Nat.zero_le _⟩ rfl rfl (Nat.le_of_ble_eq_true rfl) d_X7_areThere_9 ?_
    refine V.ifeqB g0 d_X7_areThere_12 (fun c_12 => ?_) (fun c_12 => ?_)
    · skip
      refine V.iconst g0 d_X7_areThere_19 ?_
      refine V.zret g d_X7_areThere_20 (by first | exact Or.inl rfl | exact Or.inr rfl | exact bI_01 _) (Nat.zero_le _) (Nat.zero_le _) ⟨congrArg (fun z => some (Value.int (iI z))) ?_, rfl, rfl⟩
      first | exact (bI_t (by omega)).symm | exact (bI_f (by omega)).symm | exact bI_e (by omega) | rfl
    · skip
      refine V.iconst g0 d_X7_areThere_15 ?_
      refine V.goto g0 d_X7_areThere_16 ?_
      refine V.zret g d_X7_areThere_20 (by first | exact Or.inl rfl | exact Or.inr rfl | exact bI_01 _) (Nat.zero_le _) (Nat.zero_le _) ⟨congrArg (fun z => some (Value.int (iI z))) ?_, rfl, rfl⟩
      first | exact (bI_t (by omega)).symm | exact (bI_f (by omega)).symm | exact bI_e (by omega) | rfl

theorem d_X7_isSpan_0 : Dc cX7_isSpan 0 1 1 (.iload_n 0) := ⟨by decide +kernel, rfl⟩
theorem d_X7_isSpan_1 : Dc cX7_isSpan 1 1 2 (.iconst 0) := ⟨by decide +kernel, rfl⟩
theorem d_X7_isSpan_2 : Dc cX7_isSpan 2 3 5 (.sipush 999) := ⟨by decide +kernel, rfl⟩
theorem d_X7_isSpan_5 : Dc cX7_isSpan 5 3 8 (.invokestatic 32) := ⟨by decide +kernel, rfl⟩
theorem d_X7_isSpan_8 : Dj cX7_isSpan 8 11 26 (.ifCond .eq) := ⟨18, by decide +kernel, rfl, by decide⟩
theorem d_X7_isSpan_11 : Dc cX7_isSpan 11 1 12 (.iload_n 1) := ⟨by decide +kernel, rfl⟩
theorem d_X7_isSpan_12 : Dc cX7_isSpan 12 1 13 (.iload_n 0) := ⟨by decide +kernel, rfl⟩
theorem d_X7_isSpan_13 : Dc cX7_isSpan 13 3 16 (.sipush 999) := ⟨by decide +kernel, rfl⟩
theorem d_X7_isSpan_16 : Dc cX7_isSpan 16 3 19 (.invokestatic 32) := ⟨by decide +kernel, rfl⟩
theorem d_X7_isSpan_19 : Dj cX7_isSpan 19 22 26 (.ifCond .eq) := ⟨7, by decide +kernel, rfl, by decide⟩
theorem d_X7_isSpan_22 : Dc cX7_isSpan 22 1 23 (.iconst 1) := ⟨by decide +kernel, rfl⟩
theorem d_X7_isSpan_23 : Dj cX7_isSpan 23 26 27 .goto := ⟨4, by decide +kernel, rfl, by decide⟩
theorem d_X7_isSpan_26 : Dc cX7_isSpan 26 1 27 (.iconst 0) := ⟨by decide +kernel, rfl⟩
theorem d_X7_isSpan_27 : decode cX7_isSpan 27 = .ok (.ireturn, 1) := by decide +kernel
set_option maxHeartbeats 4000000 in
set_option maxRecDepth 20000 in
theorem c_X7_isSpan {E : Ev} {n : Nat} {M : Mem} {a b : Int} (h1 : rg a) (h2 : rg b) : MT E yX7_isSpan cX7_isSpan 2 (some .boolean) 1 0 0 [.int (iI a), .int (iI b)] n M (PF (some (.int (iI (bI ((0 ≤ a ∧ a ≤ 999) ∧ (a ≤ b ∧ b ≤ 999)))))) n M) := by
  refine MT.of (by decide) rfl (Nat.le_of_ble_eq_true rfl) ?_
  intro X g
  have g0 := g.1
  show V E X 0 0 n M 0 [some (.int (iI a)), some (.int (iI b))] []
  refine V.il0 g0 d_X7_isSpan_0 ?_
  refine V.iconst g0 d_X7_isSpan_1 ?_
  refine V.sipush g0 d_X7_isSpan_2 (by decide) ?_
  refine V.callSp g0 (c_X7_in h1 (by decide) (by decide)) ky_X7_in ks_X7_in lk_X7_32 (Nat.le_of_ble_eq_true rfl) ⟨Nat.zero_le _, Nat.zero_le _⟩ rfl rfl (Nat.le_of_ble_eq_true rfl) d_X7_isSpan_5 ?_
  refine V.ifeqB g0 d_X7_isSpan_8 (fun c_8 => ?_) (fun c_8 => ?_)
  · skip
    refine V.iconst g0 d_X7_isSpan_26 ?_
    refine V.zret g d_X7_isSpan_27 (by first | exact Or.inl rfl | exact Or.inr rfl | exact bI_01 _) (Nat.zero_le _) (Nat.zero_le _) ⟨congrArg (fun z => some (Value.int (iI z))) ?_, rfl, rfl⟩
    first | exact (bI_t (by omega)).symm | exact (bI_f (by omega)).symm | exact bI_e (by omega) | rfl
  · skip
    refine V.il1 g0 d_X7_isSpan_11 ?_
    refine V.il0 g0 d_X7_isSpan_12 ?_
    refine V.sipush g0 d_X7_isSpan_13 (by decide) ?_
    refine V.callSp g0 (c_X7_in h2 h1 (by decide)) ky_X7_in ks_X7_in lk_X7_32 (Nat.le_of_ble_eq_true rfl) ⟨Nat.zero_le _, Nat.zero_le _⟩ rfl rfl (Nat.le_of_ble_eq_true rfl) d_X7_isSpan_16 ?_
    refine V.ifeqB g0 d_X7_isSpan_19 (fun c_19 => ?_) (fun c_19 => ?_)
    · skip
      refine V.iconst g0 d_X7_isSpan_26 ?_
      refine V.zret g d_X7_isSpan_27 (by first | exact Or.inl rfl | exact Or.inr rfl | exact bI_01 _) (Nat.zero_le _) (Nat.zero_le _) ⟨congrArg (fun z => some (Value.int (iI z))) ?_, rfl, rfl⟩
      first | exact (bI_t (by omega)).symm | exact (bI_f (by omega)).symm | exact bI_e (by omega) | rfl
    · skip
      refine V.iconst g0 d_X7_isSpan_22 ?_
      refine V.goto g0 d_X7_isSpan_23 ?_
      refine V.zret g d_X7_isSpan_27 (by first | exact Or.inl rfl | exact Or.inr rfl | exact bI_01 _) (Nat.zero_le _) (Nat.zero_le _) ⟨congrArg (fun z => some (Value.int (iI z))) ?_, rfl, rfl⟩
      first | exact (bI_t (by omega)).symm | exact (bI_f (by omega)).symm | exact bI_e (by omega) | rfl

theorem d_X7_of_0 : Dc cX7_of 0 2 2 (.bipush 103) := ⟨by decide +kernel, rfl⟩
theorem d_X7_of_2 : Dc cX7_of 2 1 3 (.iload_n 0) := ⟨by decide +kernel, rfl⟩
theorem d_X7_of_3 : Dc cX7_of 3 1 4 .imul := ⟨by decide +kernel, rfl⟩
theorem d_X7_of_4 : Dc cX7_of 4 1 5 (.iload_n 1) := ⟨by decide +kernel, rfl⟩
theorem d_X7_of_5 : Dc cX7_of 5 1 6 .iadd := ⟨by decide +kernel, rfl⟩
theorem d_X7_of_6 : decode cX7_of 6 = .ok (.ireturn, 1) := by decide +kernel
set_option maxHeartbeats 4000000 in
set_option maxRecDepth 20000 in
theorem c_X7_of {E : Ev} {n : Nat} {M : Mem} {p w : Int} : MT E yX7_of cX7_of 2 (some .int) 0 0 0 [.int (iI p), .int (iI w)] n M (PF (some (.int (iI (103 * p + w)))) n M) := by
  refine MT.of (by decide) rfl (Nat.le_of_ble_eq_true rfl) ?_
  intro X g
  have g0 := g.1
  show V E X 0 0 n M 0 [some (.int (iI p)), some (.int (iI w))] []
  refine V.bipush g0 d_X7_of_0 (by decide) ?_
  refine V.il0 g0 d_X7_of_2 ?_
  refine V.imul g0 d_X7_of_3 ?_
  refine V.il1 g0 d_X7_of_4 ?_
  refine V.iadd g0 d_X7_of_5 ?_
  refine V.iret g d_X7_of_6 (Nat.zero_le _) (Nat.zero_le _) ⟨congrArg (fun z => some (Value.int (iI z))) ?_, rfl, rfl⟩
  rfl

theorem d_X7_get_0 : Dc cX7_get 0 1 1 (.aload_n 0) := ⟨by decide +kernel, rfl⟩
theorem d_X7_get_1 : Dc cX7_get 1 3 4 (.getfield 7) := ⟨by decide +kernel, rfl⟩
theorem d_X7_get_4 : Dc cX7_get 4 1 5 (.iload_n 1) := ⟨by decide +kernel, rfl⟩
theorem d_X7_get_5 : Dc cX7_get 5 1 6 (.iload_n 2) := ⟨by decide +kernel, rfl⟩
theorem d_X7_get_6 : Dc cX7_get 6 3 9 (.invokestatic 43) := ⟨by decide +kernel, rfl⟩
theorem d_X7_get_9 : Dc cX7_get 9 1 10 .iaload := ⟨by decide +kernel, rfl⟩
theorem d_X7_get_10 : decode cX7_get 10 = .ok (.ireturn, 1) := by decide +kernel
set_option maxHeartbeats 4000000 in
set_option maxRecDepth 20000 in
theorem c_X7_get {E : Ev} {n : Nat} {M : Mem} {m : Nat} {s : Int → Int} (hs : MS E M m s) {p w : Int} (hi : 0 ≤ 103 * p + w ∧ 103 * p + w < 622) : MT E yX7_get cX7_get 3 (some .int) 1 0 0 [.ref m, .int (iI p), .int (iI w)] n M (PF (some (.int (iI (s (103 * p + w))))) n M) := by
  refine MT.of (by decide) rfl (Nat.le_of_ble_eq_true rfl) ?_
  intro X g
  have g0 := g.1
  show V E X 0 0 n M 0 [some (.ref m), some (.int (iI p)), some (.int (iI w))] []
  obtain ⟨⟨fr, hm⟩, ha⟩ := id hs
  refine V.al0 g0 d_X7_get_0 ?_
  refine V.getf g0 d_X7_get_1 fl_X7_7 (by assumption) (by rfl) ?_
  refine V.il1 g0 d_X7_get_4 ?_
  refine V.il2 g0 d_X7_get_5 ?_
  refine V.callSp g0 c_X7_of ky_X7_of ks_X7_of lk_X7_43 (Nat.le_of_ble_eq_true rfl) ⟨Nat.zero_le _, Nat.zero_le _⟩ rfl rfl (Nat.le_of_ble_eq_true rfl) d_X7_get_6 ?_
  refine V.iald g0 d_X7_get_9 (by assumption) (by omega) (by decide) ?_
  refine V.iret g d_X7_get_10 (Nat.zero_le _) (Nat.zero_le _) ⟨congrArg (fun z => some (Value.int (iI z))) ?_, rfl, rfl⟩
  rfl

theorem d_X7_dayOf_0 : Dc cX7_dayOf 0 1 1 (.aload_n 0) := ⟨by decide +kernel, rfl⟩
theorem d_X7_dayOf_1 : Dc cX7_dayOf 1 1 2 (.iload_n 1) := ⟨by decide +kernel, rfl⟩
theorem d_X7_dayOf_2 : Dc cX7_dayOf 2 2 4 (.bipush 9) := ⟨by decide +kernel, rfl⟩
theorem d_X7_dayOf_4 : Dc cX7_dayOf 4 1 5 (.iload_n 2) := ⟨by decide +kernel, rfl⟩
theorem d_X7_dayOf_5 : Dc cX7_dayOf 5 1 6 .iadd := ⟨by decide +kernel, rfl⟩
theorem d_X7_dayOf_6 : Dc cX7_dayOf 6 3 9 (.invokevirtual 50) := ⟨by decide +kernel, rfl⟩
theorem d_X7_dayOf_9 : Dc cX7_dayOf 9 2 11 (.bipush 12) := ⟨by decide +kernel, rfl⟩
theorem d_X7_dayOf_11 : Dc cX7_dayOf 11 1 12 .idiv := ⟨by decide +kernel, rfl⟩
theorem d_X7_dayOf_12 : decode cX7_dayOf 12 = .ok (.ireturn, 1) := by decide +kernel
set_option maxHeartbeats 4000000 in
set_option maxRecDepth 20000 in
theorem c_X7_dayOf {E : Ev} {n : Nat} {M : Mem} {m : Nat} {s : Int → Int} (hs : MS E M m s) {p : Int} (hk : OkP s p) (hp : 0 ≤ p ∧ p < 6) {r : Int} (hr : 0 ≤ r ∧ r < s (103 * p + 8)) : MT E yX7_dayOf cX7_dayOf 3 (some .int) 2 0 0 [.ref m, .int (iI p), .int (iI r)] n M (PF (some (.int (iI (stD s p r)))) n M) := by
  refine MT.of (by decide) rfl (Nat.le_of_ble_eq_true rfl) ?_
  intro X g
  have g0 := g.1
  show V E X 0 0 n M 0 [some (.ref m), some (.int (iI p)), some (.int (iI r))] []
  obtain ⟨⟨fr, hm⟩, ha⟩ := id hs
  have hv := hk.st hr.1 hr.2
  have hst := hk.stm
  refine V.al0 g0 d_X7_dayOf_0 ?_
  refine V.il1 g0 d_X7_dayOf_1 ?_
  refine V.bipush g0 d_X7_dayOf_2 (by decide) ?_
  refine V.il2 g0 d_X7_dayOf_4 ?_
  refine V.iadd g0 d_X7_dayOf_5 ?_
  refine V.callVp g0 (c_X7_get hs (by omega)) ky_X7_get ki_X7_get ks2_X7_get lk_X7_50 (by assumption) rfl rfl (Nat.le_of_ble_eq_true rfl) ⟨Nat.zero_le _, Nat.zero_le _⟩ rfl rfl (Nat.le_of_ble_eq_true rfl) d_X7_dayOf_6 ?_
  refine V.bipush g0 d_X7_dayOf_9 (by decide) ?_
  refine V.idiv g0 d_X7_dayOf_11 (by omega) (by decide) ?_
  refine V.iret g d_X7_dayOf_12 (Nat.zero_le _) (Nat.zero_le _) ⟨congrArg (fun z => some (Value.int (iI z))) ?_, rfl, rfl⟩
  rfl

theorem d_X7_countryOf_0 : Dc cX7_countryOf 0 1 1 (.aload_n 0) := ⟨by decide +kernel, rfl⟩
theorem d_X7_countryOf_1 : Dc cX7_countryOf 1 1 2 (.iload_n 1) := ⟨by decide +kernel, rfl⟩
theorem d_X7_countryOf_2 : Dc cX7_countryOf 2 2 4 (.bipush 9) := ⟨by decide +kernel, rfl⟩
theorem d_X7_countryOf_4 : Dc cX7_countryOf 4 1 5 (.iload_n 2) := ⟨by decide +kernel, rfl⟩
theorem d_X7_countryOf_5 : Dc cX7_countryOf 5 1 6 .iadd := ⟨by decide +kernel, rfl⟩
theorem d_X7_countryOf_6 : Dc cX7_countryOf 6 3 9 (.invokevirtual 50) := ⟨by decide +kernel, rfl⟩
theorem d_X7_countryOf_9 : Dc cX7_countryOf 9 1 10 (.iconst 2) := ⟨by decide +kernel, rfl⟩
theorem d_X7_countryOf_10 : Dc cX7_countryOf 10 1 11 .idiv := ⟨by decide +kernel, rfl⟩
theorem d_X7_countryOf_11 : Dc cX7_countryOf 11 2 13 (.bipush 6) := ⟨by decide +kernel, rfl⟩
theorem d_X7_countryOf_13 : Dc cX7_countryOf 13 1 14 .irem := ⟨by decide +kernel, rfl⟩
theorem d_X7_countryOf_14 : decode cX7_countryOf 14 = .ok (.ireturn, 1) := by decide +kernel
set_option maxHeartbeats 4000000 in
set_option maxRecDepth 20000 in
theorem c_X7_countryOf {E : Ev} {n : Nat} {M : Mem} {m : Nat} {s : Int → Int} (hs : MS E M m s) {p : Int} (hk : OkP s p) (hp : 0 ≤ p ∧ p < 6) {r : Int} (hr : 0 ≤ r ∧ r < s (103 * p + 8)) : MT E yX7_countryOf cX7_countryOf 3 (some .int) 2 0 0 [.ref m, .int (iI p), .int (iI r)] n M (PF (some (.int (iI (stC s p r)))) n M) := by
  refine MT.of (by decide) rfl (Nat.le_of_ble_eq_true rfl) ?_
  intro X g
  have g0 := g.1
  show V E X 0 0 n M 0 [some (.ref m), some (.int (iI p)), some (.int (iI r))] []
  obtain ⟨⟨fr, hm⟩, ha⟩ := id hs
  have hv := hk.st hr.1 hr.2
  have hst := hk.stm
  refine V.al0 g0 d_X7_countryOf_0 ?_
  refine V.il1 g0 d_X7_countryOf_1 ?_
  refine V.bipush g0 d_X7_countryOf_2 (by decide) ?_
  refine V.il2 g0 d_X7_countryOf_4 ?_
  refine V.iadd g0 d_X7_countryOf_5 ?_
  refine V.callVp g0 (c_X7_get hs (by omega)) ky_X7_get ki_X7_get ks2_X7_get lk_X7_50 (by assumption) rfl rfl (Nat.le_of_ble_eq_true rfl) ⟨Nat.zero_le _, Nat.zero_le _⟩ rfl rfl (Nat.le_of_ble_eq_true rfl) d_X7_countryOf_6 ?_
  refine V.iconst g0 d_X7_countryOf_9 ?_
  refine V.idiv g0 d_X7_countryOf_10 (by omega) (by decide) ?_
  refine V.bipush g0 d_X7_countryOf_11 (by decide) ?_
  refine V.irem g0 d_X7_countryOf_13 (by omega) (by decide) ?_
  refine V.iret g d_X7_countryOf_14 (Nat.zero_le _) (Nat.zero_le _) ⟨congrArg (fun z => some (Value.int (iI z))) ?_, rfl, rfl⟩
  rfl

theorem d_X7_isEntry_0 : Dc cX7_isEntry 0 1 1 (.aload_n 0) := ⟨by decide +kernel, rfl⟩
theorem d_X7_isEntry_1 : Dc cX7_isEntry 1 1 2 (.iload_n 1) := ⟨by decide +kernel, rfl⟩
theorem d_X7_isEntry_2 : Dc cX7_isEntry 2 2 4 (.bipush 9) := ⟨by decide +kernel, rfl⟩
theorem d_X7_isEntry_4 : Dc cX7_isEntry 4 1 5 (.iload_n 2) := ⟨by decide +kernel, rfl⟩
theorem d_X7_isEntry_5 : Dc cX7_isEntry 5 1 6 .iadd := ⟨by decide +kernel, rfl⟩
theorem d_X7_isEntry_6 : Dc cX7_isEntry 6 3 9 (.invokevirtual 50) := ⟨by decide +kernel, rfl⟩
theorem d_X7_isEntry_9 : Dc cX7_isEntry 9 1 10 (.iconst 2) := ⟨by decide +kernel, rfl⟩
theorem d_X7_isEntry_10 : Dc cX7_isEntry 10 1 11 .irem := ⟨by decide +kernel, rfl⟩
theorem d_X7_isEntry_11 : Dc cX7_isEntry 11 1 12 (.iconst 1) := ⟨by decide +kernel, rfl⟩
theorem d_X7_isEntry_12 : Dj cX7_isEntry 12 15 19 (.if_icmp .ne) := ⟨7, by decide +kernel, rfl, by decide⟩
theorem d_X7_isEntry_15 : Dc cX7_isEntry 15 1 16 (.iconst 1) := ⟨by decide +kernel, rfl⟩
theorem d_X7_isEntry_16 : Dj cX7_isEntry 16 19 20 .goto := ⟨4, by decide +kernel, rfl, by decide⟩
theorem d_X7_isEntry_19 : Dc cX7_isEntry 19 1 20 (.iconst 0) := ⟨by decide +kernel, rfl⟩
theorem d_X7_isEntry_20 : decode cX7_isEntry 20 = .ok (.ireturn, 1) := by decide +kernel
set_option maxHeartbeats 4000000 in
set_option maxRecDepth 20000 in
theorem c_X7_isEntry {E : Ev} {n : Nat} {M : Mem} {m : Nat} {s : Int → Int} (hs : MS E M m s) {p : Int} (hk : OkP s p) (hp : 0 ≤ p ∧ p < 6) {r : Int} (hr : 0 ≤ r ∧ r < s (103 * p + 8)) : MT E yX7_isEntry cX7_isEntry 3 (some .boolean) 2 0 0 [.ref m, .int (iI p), .int (iI r)] n M (PF (some (.int (iI (bI (isE s p r))))) n M) := by
  refine MT.of (by decide) rfl (Nat.le_of_ble_eq_true rfl) ?_
  intro X g
  have g0 := g.1
  show V E X 0 0 n M 0 [some (.ref m), some (.int (iI p)), some (.int (iI r))] []
  obtain ⟨⟨fr, hm⟩, ha⟩ := id hs
  have hv := hk.st hr.1 hr.2
  have hst := hk.stm
  refine V.al0 g0 d_X7_isEntry_0 ?_
  refine V.il1 g0 d_X7_isEntry_1 ?_
  refine V.bipush g0 d_X7_isEntry_2 (by decide) ?_
  refine V.il2 g0 d_X7_isEntry_4 ?_
  refine V.iadd g0 d_X7_isEntry_5 ?_
  refine V.callVp g0 (c_X7_get hs (by omega)) ky_X7_get ki_X7_get ks2_X7_get lk_X7_50 (by assumption) rfl rfl (Nat.le_of_ble_eq_true rfl) ⟨Nat.zero_le _, Nat.zero_le _⟩ rfl rfl (Nat.le_of_ble_eq_true rfl) d_X7_isEntry_6 ?_
  refine V.iconst g0 d_X7_isEntry_9 ?_
  refine V.irem g0 d_X7_isEntry_10 (by omega) (by decide) ?_
  refine V.iconst g0 d_X7_isEntry_11 ?_
  refine V.icmpne g0 d_X7_isEntry_12 (by omega) (fun c_12 => ?_) (fun c_12 => ?_)
  · skip
    refine V.iconst g0 d_X7_isEntry_19 ?_
    refine V.zret g d_X7_isEntry_20 (by first | exact Or.inl rfl | exact Or.inr rfl | exact bI_01 _) (Nat.zero_le _) (Nat.zero_le _) ⟨congrArg (fun z => some (Value.int (iI z))) ?_, rfl, rfl⟩
    first | exact (bI_t c_12).symm | exact (bI_f c_12).symm
  · skip
    refine V.iconst g0 d_X7_isEntry_15 ?_
    refine V.goto g0 d_X7_isEntry_16 ?_
    refine V.zret g d_X7_isEntry_20 (by first | exact Or.inl rfl | exact Or.inr rfl | exact bI_01 _) (Nat.zero_le _) (Nat.zero_le _) ⟨congrArg (fun z => some (Value.int (iI z))) ?_, rfl, rfl⟩
    first | exact (bI_t c_12).symm | exact (bI_f c_12).symm

theorem d_X7_toldBy_0 : Dc cX7_toldBy 0 1 1 (.iload_n 2) := ⟨by decide +kernel, rfl⟩
theorem d_X7_toldBy_1 : Dj cX7_toldBy 1 4 12 (.ifCond .ne) := ⟨11, by decide +kernel, rfl, by decide⟩
theorem d_X7_toldBy_4 : Dc cX7_toldBy 4 1 5 (.aload_n 0) := ⟨by decide +kernel, rfl⟩
theorem d_X7_toldBy_5 : Dc cX7_toldBy 5 1 6 (.iload_n 1) := ⟨by decide +kernel, rfl⟩
theorem d_X7_toldBy_6 : Dc cX7_toldBy 6 2 8 (.bipush 6) := ⟨by decide +kernel, rfl⟩
theorem d_X7_toldBy_8 : Dc cX7_toldBy 8 3 11 (.invokevirtual 50) := ⟨by decide +kernel, rfl⟩
theorem d_X7_toldBy_11 : decode cX7_toldBy 11 = .ok (.ireturn, 1) := by decide +kernel
theorem d_X7_toldBy_12 : Dc cX7_toldBy 12 1 13 (.aload_n 0) := ⟨by decide +kernel, rfl⟩
theorem d_X7_toldBy_13 : Dc cX7_toldBy 13 1 14 (.iload_n 1) := ⟨by decide +kernel, rfl⟩
theorem d_X7_toldBy_14 : Dc cX7_toldBy 14 1 15 (.iload_n 2) := ⟨by decide +kernel, rfl⟩
theorem d_X7_toldBy_15 : Dc cX7_toldBy 15 1 16 (.iconst 1) := ⟨by decide +kernel, rfl⟩
theorem d_X7_toldBy_16 : Dc cX7_toldBy 16 1 17 .isub := ⟨by decide +kernel, rfl⟩
theorem d_X7_toldBy_17 : Dc cX7_toldBy 17 3 20 (.invokevirtual 53) := ⟨by decide +kernel, rfl⟩
theorem d_X7_toldBy_20 : Dj cX7_toldBy 20 23 34 (.ifCond .eq) := ⟨14, by decide +kernel, rfl, by decide⟩
theorem d_X7_toldBy_23 : Dc cX7_toldBy 23 1 24 (.aload_n 0) := ⟨by decide +kernel, rfl⟩
theorem d_X7_toldBy_24 : Dc cX7_toldBy 24 1 25 (.iload_n 1) := ⟨by decide +kernel, rfl⟩
theorem d_X7_toldBy_25 : Dc cX7_toldBy 25 1 26 (.iload_n 2) := ⟨by decide +kernel, rfl⟩
theorem d_X7_toldBy_26 : Dc cX7_toldBy 26 1 27 (.iconst 1) := ⟨by decide +kernel, rfl⟩
theorem d_X7_toldBy_27 : Dc cX7_toldBy 27 1 28 .isub := ⟨by decide +kernel, rfl⟩
theorem d_X7_toldBy_28 : Dc cX7_toldBy 28 3 31 (.invokevirtual 57) := ⟨by decide +kernel, rfl⟩
theorem d_X7_toldBy_31 : Dj cX7_toldBy 31 34 36 .goto := ⟨5, by decide +kernel, rfl, by decide⟩
theorem d_X7_toldBy_34 : Dc cX7_toldBy 34 2 36 (.bipush (-5)) := ⟨by decide +kernel, rfl⟩
theorem d_X7_toldBy_36 : decode cX7_toldBy 36 = .ok (.ireturn, 1) := by decide +kernel
set_option maxHeartbeats 4000000 in
set_option maxRecDepth 20000 in
theorem c_X7_toldBy {E : Ev} {n : Nat} {M : Mem} {m : Nat} {s : Int → Int} (hs : MS E M m s) {p : Int} (hk : OkP s p) (hp : 0 ≤ p ∧ p < 6) {k : Int} (hr : 0 ≤ k ∧ k ≤ s (103 * p + 8)) : MT E yX7_toldBy cX7_toldBy 3 (some .int) 3 0 0 [.ref m, .int (iI p), .int (iI k)] n M (PF (some (.int (iI (bP s p k)))) n M) := by
  refine MT.of (by decide) rfl (Nat.le_of_ble_eq_true rfl) ?_
  intro X g
  have g0 := g.1
  show V E X 0 0 n M 0 [some (.ref m), some (.int (iI p)), some (.int (iI k))] []
  obtain ⟨⟨fr, hm⟩, ha⟩ := id hs
  have hst := hk.stm
  refine V.il2 g0 d_X7_toldBy_0 ?_
  refine V.ifne g0 d_X7_toldBy_1 (by omega) (fun c_1 => ?_) (fun c_1 => ?_)
  · skip
    refine V.al0 g0 d_X7_toldBy_12 ?_
    refine V.il1 g0 d_X7_toldBy_13 ?_
    refine V.il2 g0 d_X7_toldBy_14 ?_
    refine V.iconst g0 d_X7_toldBy_15 ?_
    refine V.isub g0 d_X7_toldBy_16 ?_
    refine V.callVp g0 (c_X7_isEntry hs hk hp (by omega)) ky_X7_isEntry ki_X7_isEntry ks2_X7_isEntry lk_X7_53 (by assumption) rfl rfl (Nat.le_of_ble_eq_true rfl) ⟨Nat.zero_le _, Nat.zero_le _⟩ rfl rfl (Nat.le_of_ble_eq_true rfl) d_X7_toldBy_17 ?_
    refine V.ifeqB g0 d_X7_toldBy_20 (fun c_20 => ?_) (fun c_20 => ?_)
    · skip
      refine V.bipush g0 d_X7_toldBy_34 (by decide) ?_
      refine V.iret g d_X7_toldBy_36 (Nat.zero_le _) (Nat.zero_le _) ⟨congrArg (fun z => some (Value.int (iI z))) ?_, rfl, rfl⟩
      first | (rw [bP, if_pos c_1]; done) | (rw [bP, if_neg c_1, if_pos c_20]; done) | (rw [bP, if_neg c_1, if_neg c_20]; done)
    · skip
      refine V.al0 g0 d_X7_toldBy_23 ?_
      refine V.il1 g0 d_X7_toldBy_24 ?_
      refine V.il2 g0 d_X7_toldBy_25 ?_
      refine V.iconst g0 d_X7_toldBy_26 ?_
      refine V.isub g0 d_X7_toldBy_27 ?_
      refine V.callVp g0 (c_X7_countryOf hs hk hp (by omega)) ky_X7_countryOf ki_X7_countryOf ks2_X7_countryOf lk_X7_57 (by assumption) rfl rfl (Nat.le_of_ble_eq_true rfl) ⟨Nat.zero_le _, Nat.zero_le _⟩ rfl rfl (Nat.le_of_ble_eq_true rfl) d_X7_toldBy_28 ?_
      refine V.goto g0 d_X7_toldBy_31 ?_
      refine V.iret g d_X7_toldBy_36 (Nat.zero_le _) (Nat.zero_le _) ⟨congrArg (fun z => some (Value.int (iI z))) ?_, rfl, rfl⟩
      first | (rw [bP, if_pos c_1]; done) | (rw [bP, if_neg c_1, if_pos c_20]; done) | (rw [bP, if_neg c_1, if_neg c_20]; done)
  · skip
    refine V.al0 g0 d_X7_toldBy_4 ?_
    refine V.il1 g0 d_X7_toldBy_5 ?_
    refine V.bipush g0 d_X7_toldBy_6 (by decide) ?_
    refine V.callVp g0 (c_X7_get hs (by omega)) ky_X7_get ki_X7_get ks2_X7_get lk_X7_50 (by assumption) rfl rfl (Nat.le_of_ble_eq_true rfl) ⟨Nat.zero_le _, Nat.zero_le _⟩ rfl rfl (Nat.le_of_ble_eq_true rfl) d_X7_toldBy_8 ?_
    refine V.iret g d_X7_toldBy_11 (Nat.zero_le _) (Nat.zero_le _) ⟨congrArg (fun z => some (Value.int (iI z))) ?_, rfl, rfl⟩
    first | (rw [bP, if_pos c_1]; done) | (rw [bP, if_neg c_1, if_pos c_20]; done) | (rw [bP, if_neg c_1, if_neg c_20]; done)

theorem d_X7_isGap_0 : Dc cX7_isGap 0 1 1 (.aload_n 0) := ⟨by decide +kernel, rfl⟩
theorem d_X7_isGap_1 : Dc cX7_isGap 1 1 2 (.iload_n 1) := ⟨by decide +kernel, rfl⟩
theorem d_X7_isGap_2 : Dc cX7_isGap 2 1 3 (.iload_n 2) := ⟨by decide +kernel, rfl⟩
theorem d_X7_isGap_3 : Dc cX7_isGap 3 3 6 (.invokevirtual 60) := ⟨by decide +kernel, rfl⟩
theorem d_X7_isGap_6 : Dc cX7_isGap 6 1 7 (.istore_n 3) := ⟨by decide +kernel, rfl⟩
theorem d_X7_isGap_7 : Dc cX7_isGap 7 1 8 (.aload_n 0) := ⟨by decide +kernel, rfl⟩
theorem d_X7_isGap_8 : Dc cX7_isGap 8 1 9 (.iload_n 1) := ⟨by decide +kernel, rfl⟩
theorem d_X7_isGap_9 : Dc cX7_isGap 9 1 10 (.iload_n 2) := ⟨by decide +kernel, rfl⟩
theorem d_X7_isGap_10 : Dc cX7_isGap 10 3 13 (.invokevirtual 53) := ⟨by decide +kernel, rfl⟩
theorem d_X7_isGap_13 : Dj cX7_isGap 13 16 30 (.ifCond .eq) := ⟨17, by decide +kernel, rfl, by decide⟩
theorem d_X7_isGap_16 : Dc cX7_isGap 16 1 17 (.iload_n 3) := ⟨by decide +kernel, rfl⟩
theorem d_X7_isGap_17 : Dc cX7_isGap 17 2 19 (.bipush (-5)) := ⟨by decide +kernel, rfl⟩
theorem d_X7_isGap_19 : Dj cX7_isGap 19 22 26 (.if_icmp .eq) := ⟨7, by decide +kernel, rfl, by decide⟩
theorem d_X7_isGap_22 : Dc cX7_isGap 22 1 23 (.iconst 1) := ⟨by decide +kernel, rfl⟩
theorem d_X7_isGap_23 : Dj cX7_isGap 23 26 45 .goto := ⟨22, by decide +kernel, rfl, by decide⟩
theorem d_X7_isGap_26 : Dc cX7_isGap 26 1 27 (.iconst 0) := ⟨by decide +kernel, rfl⟩
theorem d_X7_isGap_27 : Dj cX7_isGap 27 30 45 .goto := ⟨18, by decide +kernel, rfl, by decide⟩
theorem d_X7_isGap_30 : Dc cX7_isGap 30 1 31 (.iload_n 3) := ⟨by decide +kernel, rfl⟩
theorem d_X7_isGap_31 : Dc cX7_isGap 31 1 32 (.aload_n 0) := ⟨by decide +kernel, rfl⟩
theorem d_X7_isGap_32 : Dc cX7_isGap 32 1 33 (.iload_n 1) := ⟨by decide +kernel, rfl⟩
theorem d_X7_isGap_33 : Dc cX7_isGap 33 1 34 (.iload_n 2) := ⟨by decide +kernel, rfl⟩
theorem d_X7_isGap_34 : Dc cX7_isGap 34 3 37 (.invokevirtual 57) := ⟨by decide +kernel, rfl⟩
theorem d_X7_isGap_37 : Dj cX7_isGap 37 40 44 (.if_icmp .eq) := ⟨7, by decide +kernel, rfl, by decide⟩
theorem d_X7_isGap_40 : Dc cX7_isGap 40 1 41 (.iconst 1) := ⟨by decide +kernel, rfl⟩
theorem d_X7_isGap_41 : Dj cX7_isGap 41 44 45 .goto := ⟨4, by decide +kernel, rfl, by decide⟩
theorem d_X7_isGap_44 : Dc cX7_isGap 44 1 45 (.iconst 0) := ⟨by decide +kernel, rfl⟩
theorem d_X7_isGap_45 : decode cX7_isGap 45 = .ok (.ireturn, 1) := by decide +kernel
set_option maxHeartbeats 4000000 in
set_option maxRecDepth 20000 in
theorem c_X7_isGap {E : Ev} {n : Nat} {M : Mem} {m : Nat} {s : Int → Int} (hs : MS E M m s) {p : Int} (hk : OkP s p) (hp : 0 ≤ p ∧ p < 6) {r : Int} (hr : 0 ≤ r ∧ r < s (103 * p + 8)) : MT E yX7_isGap cX7_isGap 4 (some .boolean) 4 0 0 [.ref m, .int (iI p), .int (iI r)] n M (PF (some (.int (iI (bI (isGap s p r))))) n M) := by
  refine MT.of (by decide) rfl (Nat.le_of_ble_eq_true rfl) ?_
  intro X g
  have g0 := g.1
  show V E X 0 0 n M 0 [some (.ref m), some (.int (iI p)), some (.int (iI r)), none] []
  obtain ⟨⟨fr, hm⟩, ha⟩ := id hs
  have hb := bP_b hk r
  have hc := stC_b s p r
  refine V.al0 g0 d_X7_isGap_0 ?_
  refine V.il1 g0 d_X7_isGap_1 ?_
  refine V.il2 g0 d_X7_isGap_2 ?_
  refine V.callVp g0 (c_X7_toldBy hs hk hp (by omega)) ky_X7_toldBy ki_X7_toldBy ks2_X7_toldBy lk_X7_60 (by assumption) rfl rfl (Nat.le_of_ble_eq_true rfl) ⟨Nat.zero_le _, Nat.zero_le _⟩ rfl rfl (Nat.le_of_ble_eq_true rfl) d_X7_isGap_3 ?_
  refine V.is3 g0 d_X7_isGap_6 ?_
  refine V.al0 g0 d_X7_isGap_7 ?_
  refine V.il1 g0 d_X7_isGap_8 ?_
  refine V.il2 g0 d_X7_isGap_9 ?_
  refine V.callVp g0 (c_X7_isEntry hs hk hp hr) ky_X7_isEntry ki_X7_isEntry ks2_X7_isEntry lk_X7_53 (by assumption) rfl rfl (Nat.le_of_ble_eq_true rfl) ⟨Nat.zero_le _, Nat.zero_le _⟩ rfl rfl (Nat.le_of_ble_eq_true rfl) d_X7_isGap_10 ?_
  refine V.ifeqB g0 d_X7_isGap_13 (fun c_13 => ?_) (fun c_13 => ?_)
  · skip
    refine V.il3 g0 d_X7_isGap_30 ?_
    refine V.al0 g0 d_X7_isGap_31 ?_
    refine V.il1 g0 d_X7_isGap_32 ?_
    refine V.il2 g0 d_X7_isGap_33 ?_
    refine V.callVp g0 (c_X7_countryOf hs hk hp hr) ky_X7_countryOf ki_X7_countryOf ks2_X7_countryOf lk_X7_57 (by assumption) rfl rfl (Nat.le_of_ble_eq_true rfl) ⟨Nat.zero_le _, Nat.zero_le _⟩ rfl rfl (Nat.le_of_ble_eq_true rfl) d_X7_isGap_34 ?_
    refine V.icmpeq g0 d_X7_isGap_37 (by omega) (fun c_37 => ?_) (fun c_37 => ?_)
    · skip
      refine V.iconst g0 d_X7_isGap_44 ?_
      refine V.zret g d_X7_isGap_45 (by first | exact Or.inl rfl | exact Or.inr rfl | exact bI_01 _) (Nat.zero_le _) (Nat.zero_le _) ⟨congrArg (fun z => some (Value.int (iI z))) ?_, rfl, rfl⟩
      first | exact (bI_t ((isGap_e c_13).mpr c_19)).symm | exact (bI_f (fun h => (isGap_e c_13).mp h c_19)).symm | exact (bI_t ((isGap_x c_13).mpr c_37)).symm | exact (bI_f (fun h => (isGap_x c_13).mp h c_37)).symm
    · skip
      refine V.iconst g0 d_X7_isGap_40 ?_
      refine V.goto g0 d_X7_isGap_41 ?_
      refine V.zret g d_X7_isGap_45 (by first | exact Or.inl rfl | exact Or.inr rfl | exact bI_01 _) (Nat.zero_le _) (Nat.zero_le _) ⟨congrArg (fun z => some (Value.int (iI z))) ?_, rfl, rfl⟩
      first | exact (bI_t ((isGap_e c_13).mpr c_19)).symm | exact (bI_f (fun h => (isGap_e c_13).mp h c_19)).symm | exact (bI_t ((isGap_x c_13).mpr c_37)).symm | exact (bI_f (fun h => (isGap_x c_13).mp h c_37)).symm
  · skip
    refine V.il3 g0 d_X7_isGap_16 ?_
    refine V.bipush g0 d_X7_isGap_17 (by decide) ?_
    refine V.icmpeq g0 d_X7_isGap_19 (by omega) (fun c_19 => ?_) (fun c_19 => ?_)
    · skip
      refine V.iconst g0 d_X7_isGap_26 ?_
      refine V.goto g0 d_X7_isGap_27 ?_
      refine V.zret g d_X7_isGap_45 (by first | exact Or.inl rfl | exact Or.inr rfl | exact bI_01 _) (Nat.zero_le _) (Nat.zero_le _) ⟨congrArg (fun z => some (Value.int (iI z))) ?_, rfl, rfl⟩
      first | exact (bI_t ((isGap_e c_13).mpr c_19)).symm | exact (bI_f (fun h => (isGap_e c_13).mp h c_19)).symm | exact (bI_t ((isGap_x c_13).mpr c_37)).symm | exact (bI_f (fun h => (isGap_x c_13).mp h c_37)).symm
    · skip
      refine V.iconst g0 d_X7_isGap_22 ?_
      refine V.goto g0 d_X7_isGap_23 ?_
      refine V.zret g d_X7_isGap_45 (by first | exact Or.inl rfl | exact Or.inr rfl | exact bI_01 _) (Nat.zero_le _) (Nat.zero_le _) ⟨congrArg (fun z => some (Value.int (iI z))) ?_, rfl, rfl⟩
      first | exact (bI_t ((isGap_e c_13).mpr c_19)).symm | exact (bI_f (fun h => (isGap_e c_13).mp h c_19)).symm | exact (bI_t ((isGap_x c_13).mpr c_37)).symm | exact (bI_f (fun h => (isGap_x c_13).mp h c_37)).symm

theorem d_X7_gapsOf_0 : Dc cX7_gapsOf 0 1 1 (.iconst 0) := ⟨by decide +kernel, rfl⟩
theorem d_X7_gapsOf_1 : Dc cX7_gapsOf 1 1 2 (.istore_n 2) := ⟨by decide +kernel, rfl⟩
theorem d_X7_gapsOf_2 : Dc cX7_gapsOf 2 1 3 (.iconst 0) := ⟨by decide +kernel, rfl⟩
theorem d_X7_gapsOf_3 : Dc cX7_gapsOf 3 1 4 (.istore_n 3) := ⟨by decide +kernel, rfl⟩
theorem d_X7_gapsOf_4 : Dc cX7_gapsOf 4 1 5 (.iload_n 3) := ⟨by decide +kernel, rfl⟩
theorem d_X7_gapsOf_5 : Dc cX7_gapsOf 5 1 6 (.aload_n 0) := ⟨by decide +kernel, rfl⟩
theorem d_X7_gapsOf_6 : Dc cX7_gapsOf 6 1 7 (.iload_n 1) := ⟨by decide +kernel, rfl⟩
theorem d_X7_gapsOf_7 : Dc cX7_gapsOf 7 2 9 (.bipush 8) := ⟨by decide +kernel, rfl⟩
theorem d_X7_gapsOf_9 : Dc cX7_gapsOf 9 3 12 (.invokevirtual 50) := ⟨by decide +kernel, rfl⟩
theorem d_X7_gapsOf_12 : Dj cX7_gapsOf 12 15 38 (.if_icmp .ge) := ⟨26, by decide +kernel, rfl, by decide⟩
theorem d_X7_gapsOf_15 : Dc cX7_gapsOf 15 1 16 (.iload_n 2) := ⟨by decide +kernel, rfl⟩
theorem d_X7_gapsOf_16 : Dc cX7_gapsOf 16 1 17 (.aload_n 0) := ⟨by decide +kernel, rfl⟩
theorem d_X7_gapsOf_17 : Dc cX7_gapsOf 17 1 18 (.iload_n 1) := ⟨by decide +kernel, rfl⟩
theorem d_X7_gapsOf_18 : Dc cX7_gapsOf 18 1 19 (.iload_n 3) := ⟨by decide +kernel, rfl⟩
theorem d_X7_gapsOf_19 : Dc cX7_gapsOf 19 3 22 (.invokevirtual 63) := ⟨by decide +kernel, rfl⟩
theorem d_X7_gapsOf_22 : Dj cX7_gapsOf 22 25 29 (.ifCond .eq) := ⟨7, by decide +kernel, rfl, by decide⟩
theorem d_X7_gapsOf_25 : Dc cX7_gapsOf 25 1 26 (.iconst 1) := ⟨by decide +kernel, rfl⟩
theorem d_X7_gapsOf_26 : Dj cX7_gapsOf 26 29 30 .goto := ⟨4, by decide +kernel, rfl, by decide⟩
theorem d_X7_gapsOf_29 : Dc cX7_gapsOf 29 1 30 (.iconst 0) := ⟨by decide +kernel, rfl⟩
theorem d_X7_gapsOf_30 : Dc cX7_gapsOf 30 1 31 .iadd := ⟨by decide +kernel, rfl⟩
theorem d_X7_gapsOf_31 : Dc cX7_gapsOf 31 1 32 (.istore_n 2) := ⟨by decide +kernel, rfl⟩
theorem d_X7_gapsOf_32 : Dc cX7_gapsOf 32 3 35 (.iinc 3 1) := ⟨by decide +kernel, rfl⟩
theorem d_X7_gapsOf_35 : Dj cX7_gapsOf 35 38 4 .goto := ⟨(-31), by decide +kernel, rfl, by decide⟩
theorem d_X7_gapsOf_38 : Dc cX7_gapsOf 38 1 39 (.iload_n 2) := ⟨by decide +kernel, rfl⟩
theorem d_X7_gapsOf_39 : decode cX7_gapsOf 39 = .ok (.ireturn, 1) := by decide +kernel
set_option maxHeartbeats 4000000 in
set_option maxRecDepth 20000 in
theorem c_X7_gapsOf {E : Ev} {n : Nat} {M : Mem} {m : Nat} {s : Int → Int} (hs : MS E M m s) {p : Int} (hk : OkP s p) (hp : 0 ≤ p ∧ p < 6) : MT E yX7_gapsOf cX7_gapsOf 4 (some .int) 5 0 0 [.ref m, .int (iI p)] n M (PF (some (.int (iI (gapsOf s p)))) n M) := by
  refine MT.of (by decide) rfl (Nat.le_of_ble_eq_true rfl) ?_
  intro X g
  have g0 := g.1
  show V E X 0 0 n M 0 [some (.ref m), some (.int (iI p)), none, none] []
  obtain ⟨⟨fr, hm⟩, ha⟩ := id hs
  have hst := hk.stm
  refine V.iconst g0 d_X7_gapsOf_0 ?_
  refine V.is2 g0 d_X7_gapsOf_1 ?_
  refine V.iconst g0 d_X7_gapsOf_2 ?_
  refine V.is3 g0 d_X7_gapsOf_3 ?_
  have LP : ∀ (f i : Nat) (t : Int), (i : Int) + f = s (103 * p + 8) → t = sumI (fun r => bI (isGap s p r)) i → V E X 0 0 n M 4 [some (.ref m), some (.int (iI p)), some (.int (iI t)), some (.int (iI (i : Int)))] [] := by
    intro f
    induction f using Nat.strongRecOn with
    | _ f ih =>
    intro i t hf ht
    refine V.il3 g0 d_X7_gapsOf_4 ?_
    refine V.al0 g0 d_X7_gapsOf_5 ?_
    refine V.il1 g0 d_X7_gapsOf_6 ?_
    refine V.bipush g0 d_X7_gapsOf_7 (by decide) ?_
    refine V.callVp g0 (c_X7_get hs (by omega)) ky_X7_get ki_X7_get ks2_X7_get lk_X7_50 (by assumption) rfl rfl (Nat.le_of_ble_eq_true rfl) ⟨Nat.zero_le _, Nat.zero_le _⟩ rfl rfl (Nat.le_of_ble_eq_true rfl) d_X7_gapsOf_9 ?_
    refine V.icmpge g0 d_X7_gapsOf_12 (by omega) (fun c_12 => ?_) (fun c_12 => ?_)
    · skip
      refine V.il2 g0 d_X7_gapsOf_38 ?_
      refine V.iret g d_X7_gapsOf_39 (Nat.zero_le _) (Nat.zero_le _) ⟨congrArg (fun z => some (Value.int (iI z))) ?_, rfl, rfl⟩
      rw [ht, gapsOf]; congr 1; omega
    · skip
      refine V.il2 g0 d_X7_gapsOf_15 ?_
      refine V.al0 g0 d_X7_gapsOf_16 ?_
      refine V.il1 g0 d_X7_gapsOf_17 ?_
      refine V.il3 g0 d_X7_gapsOf_18 ?_
      refine V.callVp g0 (c_X7_isGap hs hk hp (by omega)) ky_X7_isGap ki_X7_isGap ks2_X7_isGap lk_X7_63 (by assumption) rfl rfl (Nat.le_of_ble_eq_true rfl) ⟨Nat.zero_le _, Nat.zero_le _⟩ rfl rfl (Nat.le_of_ble_eq_true rfl) d_X7_gapsOf_19 ?_
      refine V.ifeqB g0 d_X7_gapsOf_22 (fun c_22 => ?_) (fun c_22 => ?_)
      · skip
        refine V.iconst g0 d_X7_gapsOf_29 ?_
        refine V.iadd g0 d_X7_gapsOf_30 ?_
        refine V.is2 g0 d_X7_gapsOf_31 ?_
        refine V.inc3 g0 d_X7_gapsOf_32 ?_
        refine V.goto g0 d_X7_gapsOf_35 ?_
        exact ih (f - 1) (by omega) (i + 1) _ (by omega) (by rw [sumI_s, ht]; first | rw [bI_t c_22] | rw [bI_f c_22])
      · skip
        refine V.iconst g0 d_X7_gapsOf_25 ?_
        refine V.goto g0 d_X7_gapsOf_26 ?_
        refine V.iadd g0 d_X7_gapsOf_30 ?_
        refine V.is2 g0 d_X7_gapsOf_31 ?_
        refine V.inc3 g0 d_X7_gapsOf_32 ?_
        refine V.goto g0 d_X7_gapsOf_35 ?_
        exact ih (f - 1) (by omega) (i + 1) _ (by omega) (by rw [sumI_s, ht]; first | rw [bI_t c_22] | rw [bI_f c_22])
  exact LP (s (103 * p + 8)).toNat 0 0 (by omega) rfl

theorem d_X7_toldOn_0 : Dc cX7_toldOn 0 1 1 (.iconst 0) := ⟨by decide +kernel, rfl⟩
theorem d_X7_toldOn_1 : Dc cX7_toldOn 1 1 2 (.istore_n 3) := ⟨by decide +kernel, rfl⟩
theorem d_X7_toldOn_2 : Dc cX7_toldOn 2 1 3 (.iload_n 3) := ⟨by decide +kernel, rfl⟩
theorem d_X7_toldOn_3 : Dc cX7_toldOn 3 1 4 (.aload_n 0) := ⟨by decide +kernel, rfl⟩
theorem d_X7_toldOn_4 : Dc cX7_toldOn 4 1 5 (.iload_n 1) := ⟨by decide +kernel, rfl⟩
theorem d_X7_toldOn_5 : Dc cX7_toldOn 5 2 7 (.bipush 8) := ⟨by decide +kernel, rfl⟩
theorem d_X7_toldOn_7 : Dc cX7_toldOn 7 3 10 (.invokevirtual 50) := ⟨by decide +kernel, rfl⟩
theorem d_X7_toldOn_10 : Dj cX7_toldOn 10 13 29 (.if_icmp .ge) := ⟨19, by decide +kernel, rfl, by decide⟩
theorem d_X7_toldOn_13 : Dc cX7_toldOn 13 1 14 (.aload_n 0) := ⟨by decide +kernel, rfl⟩
theorem d_X7_toldOn_14 : Dc cX7_toldOn 14 1 15 (.iload_n 1) := ⟨by decide +kernel, rfl⟩
theorem d_X7_toldOn_15 : Dc cX7_toldOn 15 1 16 (.iload_n 3) := ⟨by decide +kernel, rfl⟩
theorem d_X7_toldOn_16 : Dc cX7_toldOn 16 3 19 (.invokevirtual 66) := ⟨by decide +kernel, rfl⟩
theorem d_X7_toldOn_19 : Dc cX7_toldOn 19 1 20 (.iload_n 2) := ⟨by decide +kernel, rfl⟩
theorem d_X7_toldOn_20 : Dj cX7_toldOn 20 23 29 (.if_icmp .gt) := ⟨9, by decide +kernel, rfl, by decide⟩
theorem d_X7_toldOn_23 : Dc cX7_toldOn 23 3 26 (.iinc 3 1) := ⟨by decide +kernel, rfl⟩
theorem d_X7_toldOn_26 : Dj cX7_toldOn 26 29 2 .goto := ⟨(-24), by decide +kernel, rfl, by decide⟩
theorem d_X7_toldOn_29 : Dc cX7_toldOn 29 1 30 (.iload_n 2) := ⟨by decide +kernel, rfl⟩
theorem d_X7_toldOn_30 : Dc cX7_toldOn 30 1 31 (.aload_n 0) := ⟨by decide +kernel, rfl⟩
theorem d_X7_toldOn_31 : Dc cX7_toldOn 31 1 32 (.iload_n 1) := ⟨by decide +kernel, rfl⟩
theorem d_X7_toldOn_32 : Dc cX7_toldOn 32 2 34 (.bipush 7) := ⟨by decide +kernel, rfl⟩
theorem d_X7_toldOn_34 : Dc cX7_toldOn 34 3 37 (.invokevirtual 50) := ⟨by decide +kernel, rfl⟩
theorem d_X7_toldOn_37 : Dj cX7_toldOn 37 40 45 (.if_icmp .ge) := ⟨8, by decide +kernel, rfl, by decide⟩
theorem d_X7_toldOn_40 : Dc cX7_toldOn 40 2 42 (.bipush (-5)) := ⟨by decide +kernel, rfl⟩
theorem d_X7_toldOn_42 : Dj cX7_toldOn 42 45 51 .goto := ⟨9, by decide +kernel, rfl, by decide⟩
theorem d_X7_toldOn_45 : Dc cX7_toldOn 45 1 46 (.aload_n 0) := ⟨by decide +kernel, rfl⟩
theorem d_X7_toldOn_46 : Dc cX7_toldOn 46 1 47 (.iload_n 1) := ⟨by decide +kernel, rfl⟩
theorem d_X7_toldOn_47 : Dc cX7_toldOn 47 1 48 (.iload_n 3) := ⟨by decide +kernel, rfl⟩
theorem d_X7_toldOn_48 : Dc cX7_toldOn 48 3 51 (.invokevirtual 60) := ⟨by decide +kernel, rfl⟩
theorem d_X7_toldOn_51 : decode cX7_toldOn 51 = .ok (.ireturn, 1) := by decide +kernel
set_option maxHeartbeats 4000000 in
set_option maxRecDepth 20000 in
theorem c_X7_toldOn {E : Ev} {n : Nat} {M : Mem} {m : Nat} {s : Int → Int} (hs : MS E M m s) {p : Int} (hk : OkP s p) (hp : 0 ≤ p ∧ p < 6) {day : Int} (hd : -2147483648 ≤ day ∧ day < 2147483648) : MT E yX7_toldOn cX7_toldOn 4 (some .int) 4 0 0 [.ref m, .int (iI p), .int (iI day)] n M (PF (some (.int (iI (trAt (bD s p) (bP s p) (s (103 * p + 8)) day)))) n M) := by
  refine MT.of (by decide) rfl (Nat.le_of_ble_eq_true rfl) ?_
  intro X g
  have g0 := g.1
  show V E X 0 0 n M 0 [some (.ref m), some (.int (iI p)), some (.int (iI day)), none] []
  obtain ⟨⟨fr, hm⟩, ha⟩ := id hs
  have hst := hk.stm
  have hbg := hk.bgo
  have hlb := lead_b (bD s p) day (s (103 * p + 8)).toNat 0
  have hD0 : bD s p 0 = s (103 * p + 7) := if_pos rfl
  refine V.iconst g0 d_X7_toldOn_0 ?_
  refine V.is3 g0 d_X7_toldOn_1 ?_
  have TL : V E X 0 0 n M 29 [some (.ref m), some (.int (iI p)), some (.int (iI day)), some (.int (iI (lead (bD s p) day (s (103 * p + 8)).toNat 0)))] [] := by
    skip
    refine V.il2 g0 d_X7_toldOn_29 ?_
    refine V.al0 g0 d_X7_toldOn_30 ?_
    refine V.il1 g0 d_X7_toldOn_31 ?_
    refine V.bipush g0 d_X7_toldOn_32 (by decide) ?_
    refine V.callVp g0 (c_X7_get hs (by omega)) ky_X7_get ki_X7_get ks2_X7_get lk_X7_50 (by assumption) rfl rfl (Nat.le_of_ble_eq_true rfl) ⟨Nat.zero_le _, Nat.zero_le _⟩ rfl rfl (Nat.le_of_ble_eq_true rfl) d_X7_toldOn_34 ?_
    refine V.icmpge g0 d_X7_toldOn_37 (by omega) (fun c_37 => ?_) (fun c_37 => ?_)
    · skip
      refine V.al0 g0 d_X7_toldOn_45 ?_
      refine V.il1 g0 d_X7_toldOn_46 ?_
      refine V.il3 g0 d_X7_toldOn_47 ?_
      refine V.callVp g0 (c_X7_toldBy hs hk hp (by omega)) ky_X7_toldBy ki_X7_toldBy ks2_X7_toldBy lk_X7_60 (by assumption) rfl rfl (Nat.le_of_ble_eq_true rfl) ⟨Nat.zero_le _, Nat.zero_le _⟩ rfl rfl (Nat.le_of_ble_eq_true rfl) d_X7_toldOn_48 ?_
      refine V.iret g d_X7_toldOn_51 (Nat.zero_le _) (Nat.zero_le _) ⟨congrArg (fun z => some (Value.int (iI z))) ?_, rfl, rfl⟩
      first | (rw [trAt, if_pos (by omega)]; done) | (rw [trAt, if_neg (by omega)]; done)
    · skip
      refine V.bipush g0 d_X7_toldOn_40 (by decide) ?_
      refine V.goto g0 d_X7_toldOn_42 ?_
      refine V.iret g d_X7_toldOn_51 (Nat.zero_le _) (Nat.zero_le _) ⟨congrArg (fun z => some (Value.int (iI z))) ?_, rfl, rfl⟩
      first | (rw [trAt, if_pos (by omega)]; done) | (rw [trAt, if_neg (by omega)]; done)
  have LP : ∀ (f : Nat) (i : Int), 0 ≤ i → i + f = s (103 * p + 8) → lead (bD s p) day (s (103 * p + 8)).toNat 0 = lead (bD s p) day f i → V E X 0 0 n M 2 [some (.ref m), some (.int (iI p)), some (.int (iI day)), some (.int (iI i))] [] := by
    intro f
    induction f using Nat.strongRecOn with
    | _ f ih =>
    intro i hi hf hl
    refine V.il3 g0 d_X7_toldOn_2 ?_
    refine V.al0 g0 d_X7_toldOn_3 ?_
    refine V.il1 g0 d_X7_toldOn_4 ?_
    refine V.bipush g0 d_X7_toldOn_5 (by decide) ?_
    refine V.callVp g0 (c_X7_get hs (by omega)) ky_X7_get ki_X7_get ks2_X7_get lk_X7_50 (by assumption) rfl rfl (Nat.le_of_ble_eq_true rfl) ⟨Nat.zero_le _, Nat.zero_le _⟩ rfl rfl (Nat.le_of_ble_eq_true rfl) d_X7_toldOn_7 ?_
    refine V.icmpge g0 d_X7_toldOn_10 (by omega) (fun c_10 => ?_) (fun c_10 => ?_)
    · skip
      rw [show f = 0 by omega, lead] at hl
      rw [hl] at TL
      exact TL
      skip
    · skip
      obtain ⟨f2, rfl⟩ : ∃ f2, f = f2 + 1 := ⟨f - 1, by omega⟩
      have hDi : bD s p (i + 1) = stD s p i := by rw [bD, if_neg (by omega), show i + 1 - 1 = i by omega]
      have hsd : 0 ≤ stD s p i ∧ stD s p i < 1000 := by have := hk.st hi (by omega : i < s (103 * p + 8)); unfold stD; omega
      refine V.al0 g0 d_X7_toldOn_13 ?_
      refine V.il1 g0 d_X7_toldOn_14 ?_
      refine V.il3 g0 d_X7_toldOn_15 ?_
      refine V.callVp g0 (c_X7_dayOf hs hk hp (by omega)) ky_X7_dayOf ki_X7_dayOf ks2_X7_dayOf lk_X7_66 (by assumption) rfl rfl (Nat.le_of_ble_eq_true rfl) ⟨Nat.zero_le _, Nat.zero_le _⟩ rfl rfl (Nat.le_of_ble_eq_true rfl) d_X7_toldOn_16 ?_
      refine V.il2 g0 d_X7_toldOn_19 ?_
      refine V.icmpgt g0 d_X7_toldOn_20 (by omega) (fun c_20 => ?_) (fun c_20 => ?_)
      · skip
        rw [lead, if_neg (by rw [hDi]; omega)] at hl
        rw [hl] at TL
        exact TL
        skip
      · skip
        refine V.inc3 g0 d_X7_toldOn_23 ?_
        refine V.goto g0 d_X7_toldOn_26 ?_
        exact ih f2 (by omega) (i + 1) (by omega) (by omega) (by rw [hl, lead, if_pos (by rw [hDi]; omega)])
  exact LP (s (103 * p + 8)).toNat 0 (by omega) (by omega) rfl

theorem d_X7_reallyOn_0 : Dc cX7_reallyOn 0 1 1 (.iconst 0) := ⟨by decide +kernel, rfl⟩
theorem d_X7_reallyOn_1 : Dc cX7_reallyOn 1 1 2 (.istore_n 3) := ⟨by decide +kernel, rfl⟩
theorem d_X7_reallyOn_2 : Dc cX7_reallyOn 2 1 3 (.iload_n 3) := ⟨by decide +kernel, rfl⟩
theorem d_X7_reallyOn_3 : Dc cX7_reallyOn 3 1 4 (.aload_n 0) := ⟨by decide +kernel, rfl⟩
theorem d_X7_reallyOn_4 : Dc cX7_reallyOn 4 1 5 (.iload_n 1) := ⟨by decide +kernel, rfl⟩
theorem d_X7_reallyOn_5 : Dc cX7_reallyOn 5 1 6 (.iconst 3) := ⟨by decide +kernel, rfl⟩
theorem d_X7_reallyOn_6 : Dc cX7_reallyOn 6 3 9 (.invokevirtual 50) := ⟨by decide +kernel, rfl⟩
theorem d_X7_reallyOn_9 : Dj cX7_reallyOn 9 12 34 (.if_icmp .ge) := ⟨25, by decide +kernel, rfl, by decide⟩
theorem d_X7_reallyOn_12 : Dc cX7_reallyOn 12 1 13 (.aload_n 0) := ⟨by decide +kernel, rfl⟩
theorem d_X7_reallyOn_13 : Dc cX7_reallyOn 13 1 14 (.iload_n 1) := ⟨by decide +kernel, rfl⟩
theorem d_X7_reallyOn_14 : Dc cX7_reallyOn 14 2 16 (.bipush 43) := ⟨by decide +kernel, rfl⟩
theorem d_X7_reallyOn_16 : Dc cX7_reallyOn 16 1 17 (.iload_n 3) := ⟨by decide +kernel, rfl⟩
theorem d_X7_reallyOn_17 : Dc cX7_reallyOn 17 1 18 .iadd := ⟨by decide +kernel, rfl⟩
theorem d_X7_reallyOn_18 : Dc cX7_reallyOn 18 3 21 (.invokevirtual 50) := ⟨by decide +kernel, rfl⟩
theorem d_X7_reallyOn_21 : Dc cX7_reallyOn 21 2 23 (.bipush 6) := ⟨by decide +kernel, rfl⟩
theorem d_X7_reallyOn_23 : Dc cX7_reallyOn 23 1 24 .idiv := ⟨by decide +kernel, rfl⟩
theorem d_X7_reallyOn_24 : Dc cX7_reallyOn 24 1 25 (.iload_n 2) := ⟨by decide +kernel, rfl⟩
theorem d_X7_reallyOn_25 : Dj cX7_reallyOn 25 28 34 (.if_icmp .gt) := ⟨9, by decide +kernel, rfl, by decide⟩
theorem d_X7_reallyOn_28 : Dc cX7_reallyOn 28 3 31 (.iinc 3 1) := ⟨by decide +kernel, rfl⟩
theorem d_X7_reallyOn_31 : Dj cX7_reallyOn 31 34 2 .goto := ⟨(-29), by decide +kernel, rfl, by decide⟩
theorem d_X7_reallyOn_34 : Dc cX7_reallyOn 34 1 35 (.iload_n 2) := ⟨by decide +kernel, rfl⟩
theorem d_X7_reallyOn_35 : Dc cX7_reallyOn 35 1 36 (.aload_n 0) := ⟨by decide +kernel, rfl⟩
theorem d_X7_reallyOn_36 : Dc cX7_reallyOn 36 1 37 (.iload_n 1) := ⟨by decide +kernel, rfl⟩
theorem d_X7_reallyOn_37 : Dc cX7_reallyOn 37 1 38 (.iconst 1) := ⟨by decide +kernel, rfl⟩
theorem d_X7_reallyOn_38 : Dc cX7_reallyOn 38 3 41 (.invokevirtual 50) := ⟨by decide +kernel, rfl⟩
theorem d_X7_reallyOn_41 : Dj cX7_reallyOn 41 44 47 (.if_icmp .ge) := ⟨6, by decide +kernel, rfl, by decide⟩
theorem d_X7_reallyOn_44 : Dc cX7_reallyOn 44 2 46 (.bipush (-5)) := ⟨by decide +kernel, rfl⟩
theorem d_X7_reallyOn_46 : decode cX7_reallyOn 46 = .ok (.ireturn, 1) := by decide +kernel
theorem d_X7_reallyOn_47 : Dc cX7_reallyOn 47 1 48 (.iload_n 3) := ⟨by decide +kernel, rfl⟩
theorem d_X7_reallyOn_48 : Dj cX7_reallyOn 48 51 60 (.ifCond .ne) := ⟨12, by decide +kernel, rfl, by decide⟩
theorem d_X7_reallyOn_51 : Dc cX7_reallyOn 51 1 52 (.aload_n 0) := ⟨by decide +kernel, rfl⟩
theorem d_X7_reallyOn_52 : Dc cX7_reallyOn 52 1 53 (.iload_n 1) := ⟨by decide +kernel, rfl⟩
theorem d_X7_reallyOn_53 : Dc cX7_reallyOn 53 1 54 (.iconst 0) := ⟨by decide +kernel, rfl⟩
theorem d_X7_reallyOn_54 : Dc cX7_reallyOn 54 3 57 (.invokevirtual 50) := ⟨by decide +kernel, rfl⟩
theorem d_X7_reallyOn_57 : Dj cX7_reallyOn 57 60 74 .goto := ⟨17, by decide +kernel, rfl, by decide⟩
theorem d_X7_reallyOn_60 : Dc cX7_reallyOn 60 1 61 (.aload_n 0) := ⟨by decide +kernel, rfl⟩
theorem d_X7_reallyOn_61 : Dc cX7_reallyOn 61 1 62 (.iload_n 1) := ⟨by decide +kernel, rfl⟩
theorem d_X7_reallyOn_62 : Dc cX7_reallyOn 62 2 64 (.bipush 43) := ⟨by decide +kernel, rfl⟩
theorem d_X7_reallyOn_64 : Dc cX7_reallyOn 64 1 65 (.iload_n 3) := ⟨by decide +kernel, rfl⟩
theorem d_X7_reallyOn_65 : Dc cX7_reallyOn 65 1 66 .iadd := ⟨by decide +kernel, rfl⟩
theorem d_X7_reallyOn_66 : Dc cX7_reallyOn 66 1 67 (.iconst 1) := ⟨by decide +kernel, rfl⟩
theorem d_X7_reallyOn_67 : Dc cX7_reallyOn 67 1 68 .isub := ⟨by decide +kernel, rfl⟩
theorem d_X7_reallyOn_68 : Dc cX7_reallyOn 68 3 71 (.invokevirtual 50) := ⟨by decide +kernel, rfl⟩
theorem d_X7_reallyOn_71 : Dc cX7_reallyOn 71 2 73 (.bipush 6) := ⟨by decide +kernel, rfl⟩
theorem d_X7_reallyOn_73 : Dc cX7_reallyOn 73 1 74 .irem := ⟨by decide +kernel, rfl⟩
theorem d_X7_reallyOn_74 : decode cX7_reallyOn 74 = .ok (.ireturn, 1) := by decide +kernel
set_option maxHeartbeats 4000000 in
set_option maxRecDepth 20000 in
theorem c_X7_reallyOn {E : Ev} {n : Nat} {M : Mem} {m : Nat} {s : Int → Int} (hs : MS E M m s) {p : Int} (hk : OkP s p) (hp : 0 ≤ p ∧ p < 6) {day : Int} (hd : -2147483648 ≤ day ∧ day < 2147483648) : MT E yX7_reallyOn cX7_reallyOn 4 (some .int) 2 0 0 [.ref m, .int (iI p), .int (iI day)] n M (PF (some (.int (iI (trAt (jD s p) (jP s p) (s (103 * p + 3)) day)))) n M) := by
  refine MT.of (by decide) rfl (Nat.le_of_ble_eq_true rfl) ?_
  intro X g
  have g0 := g.1
  show V E X 0 0 n M 0 [some (.ref m), some (.int (iI p)), some (.int (iI day)), none] []
  obtain ⟨⟨fr, hm⟩, ha⟩ := id hs
  have hst := hk.crs
  have hbg := hk.bgo
  have his := hk.iss
  have hlb := lead_b (jD s p) day (s (103 * p + 3)).toNat 0
  have hD0 : jD s p 0 = s (103 * p + 1) := if_pos rfl
  refine V.iconst g0 d_X7_reallyOn_0 ?_
  refine V.is3 g0 d_X7_reallyOn_1 ?_
  have TL : V E X 0 0 n M 34 [some (.ref m), some (.int (iI p)), some (.int (iI day)), some (.int (iI (lead (jD s p) day (s (103 * p + 3)).toNat 0)))] [] := by
    skip
    refine V.il2 g0 d_X7_reallyOn_34 ?_
    refine V.al0 g0 d_X7_reallyOn_35 ?_
    refine V.il1 g0 d_X7_reallyOn_36 ?_
    refine V.iconst g0 d_X7_reallyOn_37 ?_
    refine V.callVp g0 (c_X7_get hs (by omega)) ky_X7_get ki_X7_get ks2_X7_get lk_X7_50 (by assumption) rfl rfl (Nat.le_of_ble_eq_true rfl) ⟨Nat.zero_le _, Nat.zero_le _⟩ rfl rfl (Nat.le_of_ble_eq_true rfl) d_X7_reallyOn_38 ?_
    refine V.icmpge g0 d_X7_reallyOn_41 (by omega) (fun c_41 => ?_) (fun c_41 => ?_)
    · skip
      refine V.il3 g0 d_X7_reallyOn_47 ?_
      refine V.ifne g0 d_X7_reallyOn_48 (by omega) (fun c_48 => ?_) (fun c_48 => ?_)
      · skip
        have hcl := hk.cr (k := lead (jD s p) day (s (103 * p + 3)).toNat 0 - 1) (by omega) (by omega)
        rw [show (43 : Int) + (lead (jD s p) day (s (103 * p + 3)).toNat 0 - 1) = 43 + lead (jD s p) day (s (103 * p + 3)).toNat 0 - 1 by omega] at hcl
        refine V.al0 g0 d_X7_reallyOn_60 ?_
        refine V.il1 g0 d_X7_reallyOn_61 ?_
        refine V.bipush g0 d_X7_reallyOn_62 (by decide) ?_
        refine V.il3 g0 d_X7_reallyOn_64 ?_
        refine V.iadd g0 d_X7_reallyOn_65 ?_
        refine V.iconst g0 d_X7_reallyOn_66 ?_
        refine V.isub g0 d_X7_reallyOn_67 ?_
        refine V.callVp g0 (c_X7_get hs (by omega)) ky_X7_get ki_X7_get ks2_X7_get lk_X7_50 (by assumption) rfl rfl (Nat.le_of_ble_eq_true rfl) ⟨Nat.zero_le _, Nat.zero_le _⟩ rfl rfl (Nat.le_of_ble_eq_true rfl) d_X7_reallyOn_68 ?_
        refine V.bipush g0 d_X7_reallyOn_71 (by decide) ?_
        refine V.irem g0 d_X7_reallyOn_73 (by omega) (by decide) ?_
        refine V.iret g d_X7_reallyOn_74 (Nat.zero_le _) (Nat.zero_le _) ⟨congrArg (fun z => some (Value.int (iI z))) ?_, rfl, rfl⟩
        first | (rw [trAt, if_pos (by omega)]; done) | (rw [trAt, if_neg (by omega), jP, if_pos c_48]; done) | (rw [trAt, if_neg (by omega), jP, if_neg c_48, show (43 : Int) + (lead (jD s p) day (s (103 * p + 3)).toNat 0 - 1) = 43 + lead (jD s p) day (s (103 * p + 3)).toNat 0 - 1 by omega]; done)
      · skip
        refine V.al0 g0 d_X7_reallyOn_51 ?_
        refine V.il1 g0 d_X7_reallyOn_52 ?_
        refine V.iconst g0 d_X7_reallyOn_53 ?_
        refine V.callVp g0 (c_X7_get hs (by omega)) ky_X7_get ki_X7_get ks2_X7_get lk_X7_50 (by assumption) rfl rfl (Nat.le_of_ble_eq_true rfl) ⟨Nat.zero_le _, Nat.zero_le _⟩ rfl rfl (Nat.le_of_ble_eq_true rfl) d_X7_reallyOn_54 ?_
        refine V.goto g0 d_X7_reallyOn_57 ?_
        refine V.iret g d_X7_reallyOn_74 (Nat.zero_le _) (Nat.zero_le _) ⟨congrArg (fun z => some (Value.int (iI z))) ?_, rfl, rfl⟩
        first | (rw [trAt, if_pos (by omega)]; done) | (rw [trAt, if_neg (by omega), jP, if_pos c_48]; done) | (rw [trAt, if_neg (by omega), jP, if_neg c_48, show (43 : Int) + (lead (jD s p) day (s (103 * p + 3)).toNat 0 - 1) = 43 + lead (jD s p) day (s (103 * p + 3)).toNat 0 - 1 by omega]; done)
    · skip
      refine V.bipush g0 d_X7_reallyOn_44 (by decide) ?_
      refine V.iret g d_X7_reallyOn_46 (Nat.zero_le _) (Nat.zero_le _) ⟨congrArg (fun z => some (Value.int (iI z))) ?_, rfl, rfl⟩
      first | (rw [trAt, if_pos (by omega)]; done) | (rw [trAt, if_neg (by omega), jP, if_pos c_48]; done) | (rw [trAt, if_neg (by omega), jP, if_neg c_48, show (43 : Int) + (lead (jD s p) day (s (103 * p + 3)).toNat 0 - 1) = 43 + lead (jD s p) day (s (103 * p + 3)).toNat 0 - 1 by omega]; done)
  have LP : ∀ (f : Nat) (i : Int), 0 ≤ i → i + f = s (103 * p + 3) → lead (jD s p) day (s (103 * p + 3)).toNat 0 = lead (jD s p) day f i → V E X 0 0 n M 2 [some (.ref m), some (.int (iI p)), some (.int (iI day)), some (.int (iI i))] [] := by
    intro f
    induction f using Nat.strongRecOn with
    | _ f ih =>
    intro i hi hf hl
    refine V.il3 g0 d_X7_reallyOn_2 ?_
    refine V.al0 g0 d_X7_reallyOn_3 ?_
    refine V.il1 g0 d_X7_reallyOn_4 ?_
    refine V.iconst g0 d_X7_reallyOn_5 ?_
    refine V.callVp g0 (c_X7_get hs (by omega)) ky_X7_get ki_X7_get ks2_X7_get lk_X7_50 (by assumption) rfl rfl (Nat.le_of_ble_eq_true rfl) ⟨Nat.zero_le _, Nat.zero_le _⟩ rfl rfl (Nat.le_of_ble_eq_true rfl) d_X7_reallyOn_6 ?_
    refine V.icmpge g0 d_X7_reallyOn_9 (by omega) (fun c_9 => ?_) (fun c_9 => ?_)
    · skip
      rw [show f = 0 by omega, lead] at hl
      rw [hl] at TL
      exact TL
      skip
    · skip
      obtain ⟨f2, rfl⟩ : ∃ f2, f = f2 + 1 := ⟨f - 1, by omega⟩
      have hDi : jD s p (i + 1) = s (103 * p + (43 + i)) / 6 := by rw [jD, if_neg (by omega), show i + 1 - 1 = i by omega]
      have hsd := hk.cr hi (by omega : i < s (103 * p + 3))
      refine V.al0 g0 d_X7_reallyOn_12 ?_
      refine V.il1 g0 d_X7_reallyOn_13 ?_
      refine V.bipush g0 d_X7_reallyOn_14 (by decide) ?_
      refine V.il3 g0 d_X7_reallyOn_16 ?_
      refine V.iadd g0 d_X7_reallyOn_17 ?_
      refine V.callVp g0 (c_X7_get hs (by omega)) ky_X7_get ki_X7_get ks2_X7_get lk_X7_50 (by assumption) rfl rfl (Nat.le_of_ble_eq_true rfl) ⟨Nat.zero_le _, Nat.zero_le _⟩ rfl rfl (Nat.le_of_ble_eq_true rfl) d_X7_reallyOn_18 ?_
      refine V.bipush g0 d_X7_reallyOn_21 (by decide) ?_
      refine V.idiv g0 d_X7_reallyOn_23 (by omega) (by decide) ?_
      refine V.il2 g0 d_X7_reallyOn_24 ?_
      refine V.icmpgt g0 d_X7_reallyOn_25 (by omega) (fun c_25 => ?_) (fun c_25 => ?_)
      · skip
        rw [lead, if_neg (by rw [hDi]; omega)] at hl
        rw [hl] at TL
        exact TL
        skip
      · skip
        refine V.inc3 g0 d_X7_reallyOn_28 ?_
        refine V.goto g0 d_X7_reallyOn_31 ?_
        exact ih f2 (by omega) (i + 1) (by omega) (by omega) (by rw [hl, lead, if_pos (by rw [hDi]; omega)])
  exact LP (s (103 * p + 3)).toNat 0 (by omega) (by omega) rfl

theorem d_X7_ofVisa_0 : Dc cX7_ofVisa 0 1 1 (.aload_n 0) := ⟨by decide +kernel, rfl⟩
theorem d_X7_ofVisa_1 : Dc cX7_ofVisa 1 1 2 (.iload_n 1) := ⟨by decide +kernel, rfl⟩
theorem d_X7_ofVisa_2 : Dc cX7_ofVisa 2 2 4 (.bipush 25) := ⟨by decide +kernel, rfl⟩
theorem d_X7_ofVisa_4 : Dc cX7_ofVisa 4 1 5 (.iconst 3) := ⟨by decide +kernel, rfl⟩
theorem d_X7_ofVisa_5 : Dc cX7_ofVisa 5 1 6 (.iload_n 2) := ⟨by decide +kernel, rfl⟩
theorem d_X7_ofVisa_6 : Dc cX7_ofVisa 6 1 7 .imul := ⟨by decide +kernel, rfl⟩
theorem d_X7_ofVisa_7 : Dc cX7_ofVisa 7 1 8 .iadd := ⟨by decide +kernel, rfl⟩
theorem d_X7_ofVisa_8 : Dc cX7_ofVisa 8 1 9 (.iload_n 3) := ⟨by decide +kernel, rfl⟩
theorem d_X7_ofVisa_9 : Dc cX7_ofVisa 9 1 10 .iadd := ⟨by decide +kernel, rfl⟩
theorem d_X7_ofVisa_10 : Dc cX7_ofVisa 10 3 13 (.invokevirtual 50) := ⟨by decide +kernel, rfl⟩
theorem d_X7_ofVisa_13 : decode cX7_ofVisa 13 = .ok (.ireturn, 1) := by decide +kernel
set_option maxHeartbeats 4000000 in
set_option maxRecDepth 20000 in
theorem c_X7_ofVisa {E : Ev} {n : Nat} {M : Mem} {m : Nat} {s : Int → Int} (hs : MS E M m s) {p : Int} (hp : 0 ≤ p ∧ p < 6) {c k : Int} (hc : 0 ≤ c ∧ c < 6) (hk : 0 ≤ k ∧ k < 3) : MT E yX7_ofVisa cX7_ofVisa 4 (some .int) 2 0 0 [.ref m, .int (iI p), .int (iI c), .int (iI k)] n M (PF (some (.int (iI (vOf s p c k)))) n M) := by
  refine MT.of (by decide) rfl (Nat.le_of_ble_eq_true rfl) ?_
  intro X g
  have g0 := g.1
  show V E X 0 0 n M 0 [some (.ref m), some (.int (iI p)), some (.int (iI c)), some (.int (iI k))] []
  obtain ⟨⟨fr, hm⟩, ha⟩ := id hs
  refine V.al0 g0 d_X7_ofVisa_0 ?_
  refine V.il1 g0 d_X7_ofVisa_1 ?_
  refine V.bipush g0 d_X7_ofVisa_2 (by decide) ?_
  refine V.iconst g0 d_X7_ofVisa_4 ?_
  refine V.il2 g0 d_X7_ofVisa_5 ?_
  refine V.imul g0 d_X7_ofVisa_6 ?_
  refine V.iadd g0 d_X7_ofVisa_7 ?_
  refine V.il3 g0 d_X7_ofVisa_8 ?_
  refine V.iadd g0 d_X7_ofVisa_9 ?_
  refine V.callVp g0 (c_X7_get hs (by omega)) ky_X7_get ki_X7_get ks2_X7_get lk_X7_50 (by assumption) rfl rfl (Nat.le_of_ble_eq_true rfl) ⟨Nat.zero_le _, Nat.zero_le _⟩ rfl rfl (Nat.le_of_ble_eq_true rfl) d_X7_ofVisa_10 ?_
  refine V.iret g d_X7_ofVisa_13 (Nat.zero_le _) (Nat.zero_le _) ⟨congrArg (fun z => some (Value.int (iI z))) ?_, rfl, rfl⟩
  rfl

theorem d_X7_hasVisa_0 : Dc cX7_hasVisa 0 1 1 (.aload_n 0) := ⟨by decide +kernel, rfl⟩
theorem d_X7_hasVisa_1 : Dc cX7_hasVisa 1 1 2 (.iload_n 1) := ⟨by decide +kernel, rfl⟩
theorem d_X7_hasVisa_2 : Dc cX7_hasVisa 2 1 3 (.iload_n 2) := ⟨by decide +kernel, rfl⟩
theorem d_X7_hasVisa_3 : Dc cX7_hasVisa 3 1 4 (.iconst 2) := ⟨by decide +kernel, rfl⟩
theorem d_X7_hasVisa_4 : Dc cX7_hasVisa 4 3 7 (.invokevirtual 69) := ⟨by decide +kernel, rfl⟩
theorem d_X7_hasVisa_7 : Dj cX7_hasVisa 7 10 14 (.ifCond .le) := ⟨7, by decide +kernel, rfl, by decide⟩
theorem d_X7_hasVisa_10 : Dc cX7_hasVisa 10 1 11 (.iconst 1) := ⟨by decide +kernel, rfl⟩
theorem d_X7_hasVisa_11 : Dj cX7_hasVisa 11 14 15 .goto := ⟨4, by decide +kernel, rfl, by decide⟩
theorem d_X7_hasVisa_14 : Dc cX7_hasVisa 14 1 15 (.iconst 0) := ⟨by decide +kernel, rfl⟩
theorem d_X7_hasVisa_15 : decode cX7_hasVisa 15 = .ok (.ireturn, 1) := by decide +kernel
set_option maxHeartbeats 4000000 in
set_option maxRecDepth 20000 in
theorem c_X7_hasVisa {E : Ev} {n : Nat} {M : Mem} {m : Nat} {s : Int → Int} (hs : MS E M m s) {p : Int} (hk : OkP s p) (hp : 0 ≤ p ∧ p < 6) {c : Int} (hc : 0 ≤ c ∧ c < 6) : MT E yX7_hasVisa cX7_hasVisa 3 (some .boolean) 3 0 0 [.ref m, .int (iI p), .int (iI c)] n M (PF (some (.int (iI (bI (hasV s p c))))) n M) := by
  refine MT.of (by decide) rfl (Nat.le_of_ble_eq_true rfl) ?_
  intro X g
  have g0 := g.1
  show V E X 0 0 n M 0 [some (.ref m), some (.int (iI p)), some (.int (iI c))] []
  obtain ⟨⟨fr, hm⟩, ha⟩ := id hs
  have hv := hk.vis hc.1 hc.2
  refine V.al0 g0 d_X7_hasVisa_0 ?_
  refine V.il1 g0 d_X7_hasVisa_1 ?_
  refine V.il2 g0 d_X7_hasVisa_2 ?_
  refine V.iconst g0 d_X7_hasVisa_3 ?_
  refine V.callVp g0 (c_X7_ofVisa hs hp hc (by decide)) ky_X7_ofVisa ki_X7_ofVisa ks2_X7_ofVisa lk_X7_69 (by assumption) rfl rfl (Nat.le_of_ble_eq_true rfl) ⟨Nat.zero_le _, Nat.zero_le _⟩ rfl rfl (Nat.le_of_ble_eq_true rfl) d_X7_hasVisa_4 ?_
  refine V.ifle g0 d_X7_hasVisa_7 (by omega) (fun c_7 => ?_) (fun c_7 => ?_)
  · skip
    refine V.iconst g0 d_X7_hasVisa_14 ?_
    refine V.zret g d_X7_hasVisa_15 (by first | exact Or.inl rfl | exact Or.inr rfl | exact bI_01 _) (Nat.zero_le _) (Nat.zero_le _) ⟨congrArg (fun z => some (Value.int (iI z))) ?_, rfl, rfl⟩
    first | exact (bI_t (by omega)).symm | exact (bI_f (by omega)).symm | exact bI_e (by omega) | rfl
  · skip
    refine V.iconst g0 d_X7_hasVisa_10 ?_
    refine V.goto g0 d_X7_hasVisa_11 ?_
    refine V.zret g d_X7_hasVisa_15 (by first | exact Or.inl rfl | exact Or.inr rfl | exact bI_01 _) (Nat.zero_le _) (Nat.zero_le _) ⟨congrArg (fun z => some (Value.int (iI z))) ?_, rfl, rfl⟩
    first | exact (bI_t (by omega)).symm | exact (bI_f (by omega)).symm | exact bI_e (by omega) | rfl

theorem d_X7_isValidOn_0 : Dc cX7_isValidOn 0 1 1 (.aload_n 0) := ⟨by decide +kernel, rfl⟩
theorem d_X7_isValidOn_1 : Dc cX7_isValidOn 1 1 2 (.iload_n 1) := ⟨by decide +kernel, rfl⟩
theorem d_X7_isValidOn_2 : Dc cX7_isValidOn 2 1 3 (.iload_n 2) := ⟨by decide +kernel, rfl⟩
theorem d_X7_isValidOn_3 : Dc cX7_isValidOn 3 3 6 (.invokevirtual 73) := ⟨by decide +kernel, rfl⟩
theorem d_X7_isValidOn_6 : Dj cX7_isValidOn 6 9 34 (.ifCond .eq) := ⟨28, by decide +kernel, rfl, by decide⟩
theorem d_X7_isValidOn_9 : Dc cX7_isValidOn 9 1 10 (.iload_n 3) := ⟨by decide +kernel, rfl⟩
theorem d_X7_isValidOn_10 : Dc cX7_isValidOn 10 1 11 (.aload_n 0) := ⟨by decide +kernel, rfl⟩
theorem d_X7_isValidOn_11 : Dc cX7_isValidOn 11 1 12 (.iload_n 1) := ⟨by decide +kernel, rfl⟩
theorem d_X7_isValidOn_12 : Dc cX7_isValidOn 12 1 13 (.iload_n 2) := ⟨by decide +kernel, rfl⟩
theorem d_X7_isValidOn_13 : Dc cX7_isValidOn 13 1 14 (.iconst 0) := ⟨by decide +kernel, rfl⟩
theorem d_X7_isValidOn_14 : Dc cX7_isValidOn 14 3 17 (.invokevirtual 69) := ⟨by decide +kernel, rfl⟩
theorem d_X7_isValidOn_17 : Dc cX7_isValidOn 17 1 18 (.aload_n 0) := ⟨by decide +kernel, rfl⟩
theorem d_X7_isValidOn_18 : Dc cX7_isValidOn 18 1 19 (.iload_n 1) := ⟨by decide +kernel, rfl⟩
theorem d_X7_isValidOn_19 : Dc cX7_isValidOn 19 1 20 (.iload_n 2) := ⟨by decide +kernel, rfl⟩
theorem d_X7_isValidOn_20 : Dc cX7_isValidOn 20 1 21 (.iconst 1) := ⟨by decide +kernel, rfl⟩
theorem d_X7_isValidOn_21 : Dc cX7_isValidOn 21 3 24 (.invokevirtual 69) := ⟨by decide +kernel, rfl⟩
theorem d_X7_isValidOn_24 : Dc cX7_isValidOn 24 3 27 (.invokestatic 32) := ⟨by decide +kernel, rfl⟩
theorem d_X7_isValidOn_27 : Dj cX7_isValidOn 27 30 34 (.ifCond .eq) := ⟨7, by decide +kernel, rfl, by decide⟩
theorem d_X7_isValidOn_30 : Dc cX7_isValidOn 30 1 31 (.iconst 1) := ⟨by decide +kernel, rfl⟩
theorem d_X7_isValidOn_31 : Dj cX7_isValidOn 31 34 35 .goto := ⟨4, by decide +kernel, rfl, by decide⟩
theorem d_X7_isValidOn_34 : Dc cX7_isValidOn 34 1 35 (.iconst 0) := ⟨by decide +kernel, rfl⟩
theorem d_X7_isValidOn_35 : decode cX7_isValidOn 35 = .ok (.ireturn, 1) := by decide +kernel
set_option maxHeartbeats 4000000 in
set_option maxRecDepth 20000 in
theorem c_X7_isValidOn {E : Ev} {n : Nat} {M : Mem} {m : Nat} {s : Int → Int} (hs : MS E M m s) {p : Int} (hk : OkP s p) (hp : 0 ≤ p ∧ p < 6) {c : Int} (hc : 0 ≤ c ∧ c < 6) {day : Int} (hd : rg day) : MT E yX7_isValidOn cX7_isValidOn 4 (some .boolean) 4 0 0 [.ref m, .int (iI p), .int (iI c), .int (iI day)] n M (PF (some (.int (iI (bI (validOn s p c day))))) n M) := by
  refine MT.of (by decide) rfl (Nat.le_of_ble_eq_true rfl) ?_
  intro X g
  have g0 := g.1
  show V E X 0 0 n M 0 [some (.ref m), some (.int (iI p)), some (.int (iI c)), some (.int (iI day))] []
  obtain ⟨⟨fr, hm⟩, ha⟩ := id hs
  have hv := hk.vis hc.1 hc.2
  refine V.al0 g0 d_X7_isValidOn_0 ?_
  refine V.il1 g0 d_X7_isValidOn_1 ?_
  refine V.il2 g0 d_X7_isValidOn_2 ?_
  refine V.callVp g0 (c_X7_hasVisa hs hk hp hc) ky_X7_hasVisa ki_X7_hasVisa ks2_X7_hasVisa lk_X7_73 (by assumption) rfl rfl (Nat.le_of_ble_eq_true rfl) ⟨Nat.zero_le _, Nat.zero_le _⟩ rfl rfl (Nat.le_of_ble_eq_true rfl) d_X7_isValidOn_3 ?_
  refine V.ifeqB g0 d_X7_isValidOn_6 (fun c_6 => ?_) (fun c_6 => ?_)
  · skip
    have hno : ¬ validOn s p c day := fun h => c_6 h.1
    refine V.iconst g0 d_X7_isValidOn_34 ?_
    refine V.zret g d_X7_isValidOn_35 (by first | exact Or.inl rfl | exact Or.inr rfl | exact bI_01 _) (Nat.zero_le _) (Nat.zero_le _) ⟨congrArg (fun z => some (Value.int (iI z))) ?_, rfl, rfl⟩
    exact (bI_f hno).symm
  · skip
    refine V.il3 g0 d_X7_isValidOn_9 ?_
    refine V.al0 g0 d_X7_isValidOn_10 ?_
    refine V.il1 g0 d_X7_isValidOn_11 ?_
    refine V.il2 g0 d_X7_isValidOn_12 ?_
    refine V.iconst g0 d_X7_isValidOn_13 ?_
    refine V.callVp g0 (c_X7_ofVisa hs hp hc (by decide)) ky_X7_ofVisa ki_X7_ofVisa ks2_X7_ofVisa lk_X7_69 (by assumption) rfl rfl (Nat.le_of_ble_eq_true rfl) ⟨Nat.zero_le _, Nat.zero_le _⟩ rfl rfl (Nat.le_of_ble_eq_true rfl) d_X7_isValidOn_14 ?_
    refine V.al0 g0 d_X7_isValidOn_17 ?_
    refine V.il1 g0 d_X7_isValidOn_18 ?_
    refine V.il2 g0 d_X7_isValidOn_19 ?_
    refine V.iconst g0 d_X7_isValidOn_20 ?_
    refine V.callVp g0 (c_X7_ofVisa hs hp hc (by decide)) ky_X7_ofVisa ki_X7_ofVisa ks2_X7_ofVisa lk_X7_69 (by assumption) rfl rfl (Nat.le_of_ble_eq_true rfl) ⟨Nat.zero_le _, Nat.zero_le _⟩ rfl rfl (Nat.le_of_ble_eq_true rfl) d_X7_isValidOn_21 ?_
    refine V.callSp g0 (c_X7_in hd (by omega) (by omega)) ky_X7_in ks_X7_in lk_X7_32 (Nat.le_of_ble_eq_true rfl) ⟨Nat.zero_le _, Nat.zero_le _⟩ rfl rfl (Nat.le_of_ble_eq_true rfl) d_X7_isValidOn_24 ?_
    refine V.ifeqB g0 d_X7_isValidOn_27 (fun c_27 => ?_) (fun c_27 => ?_)
    · skip
      have hno : ¬ validOn s p c day := fun h => c_27 h.2
      refine V.iconst g0 d_X7_isValidOn_34 ?_
      refine V.zret g d_X7_isValidOn_35 (by first | exact Or.inl rfl | exact Or.inr rfl | exact bI_01 _) (Nat.zero_le _) (Nat.zero_le _) ⟨congrArg (fun z => some (Value.int (iI z))) ?_, rfl, rfl⟩
      exact (bI_f hno).symm
    · skip
      refine V.iconst g0 d_X7_isValidOn_30 ?_
      refine V.goto g0 d_X7_isValidOn_31 ?_
      refine V.zret g d_X7_isValidOn_35 (by first | exact Or.inl rfl | exact Or.inr rfl | exact bI_01 _) (Nat.zero_le _) (Nat.zero_le _) ⟨congrArg (fun z => some (Value.int (iI z))) ?_, rfl, rfl⟩
      exact (bI_t ⟨c_6, c_27⟩).symm

theorem d_X7_toldDays_0 : Dc cX7_toldDays 0 1 1 (.iconst 0) := ⟨by decide +kernel, rfl⟩
theorem d_X7_toldDays_1 : Dc cX7_toldDays 1 2 3 (.istore 6) := ⟨by decide +kernel, rfl⟩
theorem d_X7_toldDays_3 : Dc cX7_toldDays 3 1 4 (.iload_n 3) := ⟨by decide +kernel, rfl⟩
theorem d_X7_toldDays_4 : Dc cX7_toldDays 4 2 6 (.istore 7) := ⟨by decide +kernel, rfl⟩
theorem d_X7_toldDays_6 : Dc cX7_toldDays 6 2 8 (.iload 7) := ⟨by decide +kernel, rfl⟩
theorem d_X7_toldDays_8 : Dc cX7_toldDays 8 2 10 (.iload 4) := ⟨by decide +kernel, rfl⟩
theorem d_X7_toldDays_10 : Dj cX7_toldDays 10 13 47 (.if_icmp .gt) := ⟨37, by decide +kernel, rfl, by decide⟩
theorem d_X7_toldDays_13 : Dc cX7_toldDays 13 2 15 (.iload 7) := ⟨by decide +kernel, rfl⟩
theorem d_X7_toldDays_15 : Dc cX7_toldDays 15 2 17 (.iload 5) := ⟨by decide +kernel, rfl⟩
theorem d_X7_toldDays_17 : Dj cX7_toldDays 17 20 47 (.if_icmp .ge) := ⟨30, by decide +kernel, rfl, by decide⟩
theorem d_X7_toldDays_20 : Dc cX7_toldDays 20 2 22 (.iload 6) := ⟨by decide +kernel, rfl⟩
theorem d_X7_toldDays_22 : Dc cX7_toldDays 22 1 23 (.aload_n 0) := ⟨by decide +kernel, rfl⟩
theorem d_X7_toldDays_23 : Dc cX7_toldDays 23 1 24 (.iload_n 1) := ⟨by decide +kernel, rfl⟩
theorem d_X7_toldDays_24 : Dc cX7_toldDays 24 2 26 (.iload 7) := ⟨by decide +kernel, rfl⟩
theorem d_X7_toldDays_26 : Dc cX7_toldDays 26 3 29 (.invokevirtual 76) := ⟨by decide +kernel, rfl⟩
theorem d_X7_toldDays_29 : Dc cX7_toldDays 29 1 30 (.iload_n 2) := ⟨by decide +kernel, rfl⟩
theorem d_X7_toldDays_30 : Dj cX7_toldDays 30 33 37 (.if_icmp .ne) := ⟨7, by decide +kernel, rfl, by decide⟩
theorem d_X7_toldDays_33 : Dc cX7_toldDays 33 1 34 (.iconst 1) := ⟨by decide +kernel, rfl⟩
theorem d_X7_toldDays_34 : Dj cX7_toldDays 34 37 38 .goto := ⟨4, by decide +kernel, rfl, by decide⟩
theorem d_X7_toldDays_37 : Dc cX7_toldDays 37 1 38 (.iconst 0) := ⟨by decide +kernel, rfl⟩
theorem d_X7_toldDays_38 : Dc cX7_toldDays 38 1 39 .iadd := ⟨by decide +kernel, rfl⟩
theorem d_X7_toldDays_39 : Dc cX7_toldDays 39 2 41 (.istore 6) := ⟨by decide +kernel, rfl⟩
theorem d_X7_toldDays_41 : Dc cX7_toldDays 41 3 44 (.iinc 7 1) := ⟨by decide +kernel, rfl⟩
theorem d_X7_toldDays_44 : Dj cX7_toldDays 44 47 6 .goto := ⟨(-38), by decide +kernel, rfl, by decide⟩
theorem d_X7_toldDays_47 : Dc cX7_toldDays 47 2 49 (.iload 6) := ⟨by decide +kernel, rfl⟩
theorem d_X7_toldDays_49 : decode cX7_toldDays 49 = .ok (.ireturn, 1) := by decide +kernel
set_option maxHeartbeats 4000000 in
set_option maxRecDepth 20000 in
theorem c_X7_toldDays {E : Ev} {n : Nat} {M : Mem} {m : Nat} {s : Int → Int} (hs : MS E M m s) {p : Int} (hk : OkP s p) (hp : 0 ≤ p ∧ p < 6) {c : Int} (hc : 0 ≤ c ∧ c < 6) {a u t : Int} (h1 : 0 ≤ a ∧ a ≤ 999) (h2 : 0 ≤ u ∧ u ≤ 999) (h3 : 0 ≤ t ∧ t ≤ 1000) : MT E yX7_toldDays cX7_toldDays 8 (some .int) 5 0 0 [.ref m, .int (iI p), .int (iI c), .int (iI a), .int (iI u), .int (iI t)] n M (PF (some (.int (iI (toldDays s p c a u t)))) n M) := by
  refine MT.of (by decide) rfl (Nat.le_of_ble_eq_true rfl) ?_
  intro X g
  have g0 := g.1
  show V E X 0 0 n M 0 [some (.ref m), some (.int (iI p)), some (.int (iI c)), some (.int (iI a)), some (.int (iI u)), some (.int (iI t)), none, none] []
  obtain ⟨⟨fr, hm⟩, ha⟩ := id hs
  have htb : ∀ day, -5 ≤ trAt (bD s p) (bP s p) (s (103 * p + 8)) day ∧ trAt (bD s p) (bP s p) (s (103 * p + 8)) day ≤ 5 := fun day => trAt_b (bP_b hk) _ day
  refine V.iconst g0 d_X7_toldDays_0 ?_
  refine V.is6 g0 d_X7_toldDays_1 ?_
  refine V.il3 g0 d_X7_toldDays_3 ?_
  refine V.is7 g0 d_X7_toldDays_4 ?_
  have LP : ∀ (f i : Nat) (z : Int), i + f = (min (u + 1) t - a).toNat → z = sumI (fun i => bI (trAt (bD s p) (bP s p) (s (103 * p + 8)) (a + i) = c)) i → V E X 0 0 n M 6 [some (.ref m), some (.int (iI p)), some (.int (iI c)), some (.int (iI a)), some (.int (iI u)), some (.int (iI t)), some (.int (iI z)), some (.int (iI (a + (i : Int))))] [] := by
    intro f
    induction f using Nat.strongRecOn with
    | _ f ih =>
    intro i z hf hz
    refine V.il7 g0 d_X7_toldDays_6 ?_
    refine V.il4 g0 d_X7_toldDays_8 ?_
    refine V.icmpgt g0 d_X7_toldDays_10 (by omega) (fun c_10 => ?_) (fun c_10 => ?_)
    · skip
      refine V.il6 g0 d_X7_toldDays_47 ?_
      refine V.iret g d_X7_toldDays_49 (Nat.zero_le _) (Nat.zero_le _) ⟨congrArg (fun z => some (Value.int (iI z))) ?_, rfl, rfl⟩
      rw [hz, toldDays, daysOn]; congr 1; omega
    · skip
      refine V.il7 g0 d_X7_toldDays_13 ?_
      refine V.il5 g0 d_X7_toldDays_15 ?_
      refine V.icmpge g0 d_X7_toldDays_17 (by omega) (fun c_17 => ?_) (fun c_17 => ?_)
      · skip
        refine V.il6 g0 d_X7_toldDays_47 ?_
        refine V.iret g d_X7_toldDays_49 (Nat.zero_le _) (Nat.zero_le _) ⟨congrArg (fun z => some (Value.int (iI z))) ?_, rfl, rfl⟩
        rw [hz, toldDays, daysOn]; congr 1; omega
      · skip
        refine V.il6 g0 d_X7_toldDays_20 ?_
        refine V.al0 g0 d_X7_toldDays_22 ?_
        refine V.il1 g0 d_X7_toldDays_23 ?_
        refine V.il7 g0 d_X7_toldDays_24 ?_
        refine V.callVp g0 (c_X7_toldOn hs hk hp (by omega)) ky_X7_toldOn ki_X7_toldOn ks2_X7_toldOn lk_X7_76 (by assumption) rfl rfl (Nat.le_of_ble_eq_true rfl) ⟨Nat.zero_le _, Nat.zero_le _⟩ rfl rfl (Nat.le_of_ble_eq_true rfl) d_X7_toldDays_26 ?_
        refine V.il2 g0 d_X7_toldDays_29 ?_
        refine V.icmpne g0 d_X7_toldDays_30 (by have := htb (a + i); omega) (fun c_30 => ?_) (fun c_30 => ?_)
        · skip
          refine V.iconst g0 d_X7_toldDays_37 ?_
          refine V.iadd g0 d_X7_toldDays_38 ?_
          refine V.is6 g0 d_X7_toldDays_39 ?_
          refine V.inc7 g0 d_X7_toldDays_41 ?_
          refine V.goto g0 d_X7_toldDays_44 ?_
          exact V.eqL (by rw [show a + ((i + 1 : Nat) : Int) = a + (i : Int) + 1 by omega]) (ih (f - 1) (by omega) (i + 1) _ (by omega) (by rw [sumI_s, hz]; first | rw [bI_t (by assumption)] | rw [bI_f (by assumption)]))
        · skip
          refine V.iconst g0 d_X7_toldDays_33 ?_
          refine V.goto g0 d_X7_toldDays_34 ?_
          refine V.iadd g0 d_X7_toldDays_38 ?_
          refine V.is6 g0 d_X7_toldDays_39 ?_
          refine V.inc7 g0 d_X7_toldDays_41 ?_
          refine V.goto g0 d_X7_toldDays_44 ?_
          exact V.eqL (by rw [show a + ((i + 1 : Nat) : Int) = a + (i : Int) + 1 by omega]) (ih (f - 1) (by omega) (i + 1) _ (by omega) (by rw [sumI_s, hz]; first | rw [bI_t (by assumption)] | rw [bI_f (by assumption)]))
  exact V.eqL (by rw [show a + ((0 : Nat) : Int) = a by omega]) (LP (min (u + 1) t - a).toNat 0 0 (by omega) rfl)

theorem d_X7_usedAheadOf_0 : Dc cX7_usedAheadOf 0 1 1 (.aload_n 0) := ⟨by decide +kernel, rfl⟩
theorem d_X7_usedAheadOf_1 : Dc cX7_usedAheadOf 1 1 2 (.iload_n 1) := ⟨by decide +kernel, rfl⟩
theorem d_X7_usedAheadOf_2 : Dc cX7_usedAheadOf 2 1 3 (.iload_n 2) := ⟨by decide +kernel, rfl⟩
theorem d_X7_usedAheadOf_3 : Dc cX7_usedAheadOf 3 1 4 (.aload_n 0) := ⟨by decide +kernel, rfl⟩
theorem d_X7_usedAheadOf_4 : Dc cX7_usedAheadOf 4 1 5 (.iload_n 1) := ⟨by decide +kernel, rfl⟩
theorem d_X7_usedAheadOf_5 : Dc cX7_usedAheadOf 5 1 6 (.iload_n 2) := ⟨by decide +kernel, rfl⟩
theorem d_X7_usedAheadOf_6 : Dc cX7_usedAheadOf 6 1 7 (.iconst 0) := ⟨by decide +kernel, rfl⟩
theorem d_X7_usedAheadOf_7 : Dc cX7_usedAheadOf 7 3 10 (.invokevirtual 69) := ⟨by decide +kernel, rfl⟩
theorem d_X7_usedAheadOf_10 : Dc cX7_usedAheadOf 10 1 11 (.aload_n 0) := ⟨by decide +kernel, rfl⟩
theorem d_X7_usedAheadOf_11 : Dc cX7_usedAheadOf 11 1 12 (.iload_n 1) := ⟨by decide +kernel, rfl⟩
theorem d_X7_usedAheadOf_12 : Dc cX7_usedAheadOf 12 1 13 (.iload_n 2) := ⟨by decide +kernel, rfl⟩
theorem d_X7_usedAheadOf_13 : Dc cX7_usedAheadOf 13 1 14 (.iconst 1) := ⟨by decide +kernel, rfl⟩
theorem d_X7_usedAheadOf_14 : Dc cX7_usedAheadOf 14 3 17 (.invokevirtual 69) := ⟨by decide +kernel, rfl⟩
theorem d_X7_usedAheadOf_17 : Dc cX7_usedAheadOf 17 1 18 (.iload_n 3) := ⟨by decide +kernel, rfl⟩
theorem d_X7_usedAheadOf_18 : Dc cX7_usedAheadOf 18 3 21 (.invokevirtual 79) := ⟨by decide +kernel, rfl⟩
theorem d_X7_usedAheadOf_21 : decode cX7_usedAheadOf 21 = .ok (.ireturn, 1) := by decide +kernel
set_option maxHeartbeats 4000000 in
set_option maxRecDepth 20000 in
theorem c_X7_usedAheadOf {E : Ev} {n : Nat} {M : Mem} {m : Nat} {s : Int → Int} (hs : MS E M m s) {p : Int} (hk : OkP s p) (hp : 0 ≤ p ∧ p < 6) {c : Int} (hc : 0 ≤ c ∧ c < 6) {day : Int} (hd : 0 ≤ day ∧ day ≤ 1000) : MT E yX7_usedAheadOf cX7_usedAheadOf 4 (some .int) 6 0 0 [.ref m, .int (iI p), .int (iI c), .int (iI day)] n M (PF (some (.int (iI (usedOn s p c day)))) n M) := by
  refine MT.of (by decide) rfl (Nat.le_of_ble_eq_true rfl) ?_
  intro X g
  have g0 := g.1
  show V E X 0 0 n M 0 [some (.ref m), some (.int (iI p)), some (.int (iI c)), some (.int (iI day))] []
  obtain ⟨⟨fr, hm⟩, ha⟩ := id hs
  have hv := hk.vis hc.1 hc.2
  refine V.al0 g0 d_X7_usedAheadOf_0 ?_
  refine V.il1 g0 d_X7_usedAheadOf_1 ?_
  refine V.il2 g0 d_X7_usedAheadOf_2 ?_
  refine V.al0 g0 d_X7_usedAheadOf_3 ?_
  refine V.il1 g0 d_X7_usedAheadOf_4 ?_
  refine V.il2 g0 d_X7_usedAheadOf_5 ?_
  refine V.iconst g0 d_X7_usedAheadOf_6 ?_
  refine V.callVp g0 (c_X7_ofVisa hs hp hc (by decide)) ky_X7_ofVisa ki_X7_ofVisa ks2_X7_ofVisa lk_X7_69 (by assumption) rfl rfl (Nat.le_of_ble_eq_true rfl) ⟨Nat.zero_le _, Nat.zero_le _⟩ rfl rfl (Nat.le_of_ble_eq_true rfl) d_X7_usedAheadOf_7 ?_
  refine V.al0 g0 d_X7_usedAheadOf_10 ?_
  refine V.il1 g0 d_X7_usedAheadOf_11 ?_
  refine V.il2 g0 d_X7_usedAheadOf_12 ?_
  refine V.iconst g0 d_X7_usedAheadOf_13 ?_
  refine V.callVp g0 (c_X7_ofVisa hs hp hc (by decide)) ky_X7_ofVisa ki_X7_ofVisa ks2_X7_ofVisa lk_X7_69 (by assumption) rfl rfl (Nat.le_of_ble_eq_true rfl) ⟨Nat.zero_le _, Nat.zero_le _⟩ rfl rfl (Nat.le_of_ble_eq_true rfl) d_X7_usedAheadOf_14 ?_
  refine V.il3 g0 d_X7_usedAheadOf_17 ?_
  refine V.callVp g0 (c_X7_toldDays hs hk hp hc hv.1 hv.2.1 hd) ky_X7_toldDays ki_X7_toldDays ks2_X7_toldDays lk_X7_79 (by assumption) rfl rfl (Nat.le_of_ble_eq_true rfl) ⟨Nat.zero_le _, Nat.zero_le _⟩ rfl rfl (Nat.le_of_ble_eq_true rfl) d_X7_usedAheadOf_18 ?_
  refine V.iret g d_X7_usedAheadOf_21 (Nat.zero_le _) (Nat.zero_le _) ⟨congrArg (fun z => some (Value.int (iI z))) ?_, rfl, rfl⟩
  rfl

theorem d_X7_used_0 : Dc cX7_used 0 1 1 (.aload_n 0) := ⟨by decide +kernel, rfl⟩
theorem d_X7_used_1 : Dc cX7_used 1 1 2 (.iload_n 1) := ⟨by decide +kernel, rfl⟩
theorem d_X7_used_2 : Dc cX7_used 2 1 3 (.iload_n 2) := ⟨by decide +kernel, rfl⟩
theorem d_X7_used_3 : Dc cX7_used 3 1 4 (.aload_n 0) := ⟨by decide +kernel, rfl⟩
theorem d_X7_used_4 : Dc cX7_used 4 3 7 (.getfield 7) := ⟨by decide +kernel, rfl⟩
theorem d_X7_used_7 : Dc cX7_used 7 3 10 (.sipush 618) := ⟨by decide +kernel, rfl⟩
theorem d_X7_used_10 : Dc cX7_used 10 1 11 .iaload := ⟨by decide +kernel, rfl⟩
theorem d_X7_used_11 : Dc cX7_used 11 3 14 (.invokevirtual 83) := ⟨by decide +kernel, rfl⟩
theorem d_X7_used_14 : decode cX7_used 14 = .ok (.ireturn, 1) := by decide +kernel
set_option maxHeartbeats 4000000 in
set_option maxRecDepth 20000 in
theorem c_X7_used {E : Ev} {n : Nat} {M : Mem} {m : Nat} {s : Int → Int} (hs : MS E M m s) {p : Int} (hk : OkP s p) (hp : 0 ≤ p ∧ p < 6) {c : Int} (hc : 0 ≤ c ∧ c < 6) : MT E yX7_used cX7_used 3 (some .int) 7 0 0 [.ref m, .int (iI p), .int (iI c)] n M (PF (some (.int (iI (usedOn s p c (s 618))))) n M) := by
  refine MT.of (by decide) rfl (Nat.le_of_ble_eq_true rfl) ?_
  intro X g
  have g0 := g.1
  show V E X 0 0 n M 0 [some (.ref m), some (.int (iI p)), some (.int (iI c))] []
  obtain ⟨⟨fr, hm⟩, ha⟩ := id hs
  have hbg := hk.bgo
  refine V.al0 g0 d_X7_used_0 ?_
  refine V.il1 g0 d_X7_used_1 ?_
  refine V.il2 g0 d_X7_used_2 ?_
  refine V.al0 g0 d_X7_used_3 ?_
  refine V.getf g0 d_X7_used_4 fl_X7_7 (by assumption) (by rfl) ?_
  refine V.sipush g0 d_X7_used_7 (by decide) ?_
  refine V.iald g0 d_X7_used_10 (by assumption) (by omega) (by decide) ?_
  refine V.callVp g0 (c_X7_usedAheadOf hs hk hp hc (by omega)) ky_X7_usedAheadOf ki_X7_usedAheadOf ks2_X7_usedAheadOf lk_X7_83 (by assumption) rfl rfl (Nat.le_of_ble_eq_true rfl) ⟨Nat.zero_le _, Nat.zero_le _⟩ rfl rfl (Nat.le_of_ble_eq_true rfl) d_X7_used_11 ?_
  refine V.iret g d_X7_used_14 (Nat.zero_le _) (Nat.zero_le _) ⟨congrArg (fun z => some (Value.int (iI z))) ?_, rfl, rfl⟩
  rfl

theorem d_X7_isLetIn_0 : Dc cX7_isLetIn 0 1 1 (.aload_n 0) := ⟨by decide +kernel, rfl⟩
theorem d_X7_isLetIn_1 : Dc cX7_isLetIn 1 1 2 (.iload_n 1) := ⟨by decide +kernel, rfl⟩
theorem d_X7_isLetIn_2 : Dc cX7_isLetIn 2 1 3 (.iconst 0) := ⟨by decide +kernel, rfl⟩
theorem d_X7_isLetIn_3 : Dc cX7_isLetIn 3 3 6 (.invokevirtual 50) := ⟨by decide +kernel, rfl⟩
theorem d_X7_isLetIn_6 : Dc cX7_isLetIn 6 1 7 (.iload_n 2) := ⟨by decide +kernel, rfl⟩
theorem d_X7_isLetIn_7 : Dj cX7_isLetIn 7 10 43 (.if_icmp .eq) := ⟨36, by decide +kernel, rfl, by decide⟩
theorem d_X7_isLetIn_10 : Dc cX7_isLetIn 10 1 11 (.aload_n 0) := ⟨by decide +kernel, rfl⟩
theorem d_X7_isLetIn_11 : Dc cX7_isLetIn 11 1 12 (.iload_n 1) := ⟨by decide +kernel, rfl⟩
theorem d_X7_isLetIn_12 : Dc cX7_isLetIn 12 1 13 (.iload_n 2) := ⟨by decide +kernel, rfl⟩
theorem d_X7_isLetIn_13 : Dc cX7_isLetIn 13 1 14 (.aload_n 0) := ⟨by decide +kernel, rfl⟩
theorem d_X7_isLetIn_14 : Dc cX7_isLetIn 14 3 17 (.getfield 7) := ⟨by decide +kernel, rfl⟩
theorem d_X7_isLetIn_17 : Dc cX7_isLetIn 17 3 20 (.sipush 618) := ⟨by decide +kernel, rfl⟩
theorem d_X7_isLetIn_20 : Dc cX7_isLetIn 20 1 21 .iaload := ⟨by decide +kernel, rfl⟩
theorem d_X7_isLetIn_21 : Dc cX7_isLetIn 21 3 24 (.invokevirtual 86) := ⟨by decide +kernel, rfl⟩
theorem d_X7_isLetIn_24 : Dj cX7_isLetIn 24 27 47 (.ifCond .eq) := ⟨23, by decide +kernel, rfl, by decide⟩
theorem d_X7_isLetIn_27 : Dc cX7_isLetIn 27 1 28 (.aload_n 0) := ⟨by decide +kernel, rfl⟩
theorem d_X7_isLetIn_28 : Dc cX7_isLetIn 28 1 29 (.iload_n 1) := ⟨by decide +kernel, rfl⟩
theorem d_X7_isLetIn_29 : Dc cX7_isLetIn 29 1 30 (.iload_n 2) := ⟨by decide +kernel, rfl⟩
theorem d_X7_isLetIn_30 : Dc cX7_isLetIn 30 3 33 (.invokevirtual 89) := ⟨by decide +kernel, rfl⟩
theorem d_X7_isLetIn_33 : Dc cX7_isLetIn 33 1 34 (.aload_n 0) := ⟨by decide +kernel, rfl⟩
theorem d_X7_isLetIn_34 : Dc cX7_isLetIn 34 1 35 (.iload_n 1) := ⟨by decide +kernel, rfl⟩
theorem d_X7_isLetIn_35 : Dc cX7_isLetIn 35 1 36 (.iload_n 2) := ⟨by decide +kernel, rfl⟩
theorem d_X7_isLetIn_36 : Dc cX7_isLetIn 36 1 37 (.iconst 2) := ⟨by decide +kernel, rfl⟩
theorem d_X7_isLetIn_37 : Dc cX7_isLetIn 37 3 40 (.invokevirtual 69) := ⟨by decide +kernel, rfl⟩
theorem d_X7_isLetIn_40 : Dj cX7_isLetIn 40 43 47 (.if_icmp .ge) := ⟨7, by decide +kernel, rfl, by decide⟩
theorem d_X7_isLetIn_43 : Dc cX7_isLetIn 43 1 44 (.iconst 1) := ⟨by decide +kernel, rfl⟩
theorem d_X7_isLetIn_44 : Dj cX7_isLetIn 44 47 48 .goto := ⟨4, by decide +kernel, rfl, by decide⟩
theorem d_X7_isLetIn_47 : Dc cX7_isLetIn 47 1 48 (.iconst 0) := ⟨by decide +kernel, rfl⟩
theorem d_X7_isLetIn_48 : decode cX7_isLetIn 48 = .ok (.ireturn, 1) := by decide +kernel
set_option maxHeartbeats 4000000 in
set_option maxRecDepth 20000 in
theorem c_X7_isLetIn {E : Ev} {n : Nat} {M : Mem} {m : Nat} {s : Int → Int} (hs : MS E M m s) {p : Int} (hk : OkP s p) (hp : 0 ≤ p ∧ p < 6) {c : Int} (hc : 0 ≤ c ∧ c < 6) : MT E yX7_isLetIn cX7_isLetIn 3 (some .boolean) 8 0 0 [.ref m, .int (iI p), .int (iI c)] n M (PF (some (.int (iI (bI (mayBe s p c (s 618)))))) n M) := by
  refine MT.of (by decide) rfl (Nat.le_of_ble_eq_true rfl) ?_
  intro X g
  have g0 := g.1
  show V E X 0 0 n M 0 [some (.ref m), some (.int (iI p)), some (.int (iI c))] []
  obtain ⟨⟨fr, hm⟩, ha⟩ := id hs
  have hv := hk.vis hc.1 hc.2
  have hbg := hk.bgo
  have hh := hk.home
  have hu := usedOn_b2 hk hc.1 hc.2 (s 618)
  refine V.al0 g0 d_X7_isLetIn_0 ?_
  refine V.il1 g0 d_X7_isLetIn_1 ?_
  refine V.iconst g0 d_X7_isLetIn_2 ?_
  refine V.callVp g0 (c_X7_get hs (by omega)) ky_X7_get ki_X7_get ks2_X7_get lk_X7_50 (by assumption) rfl rfl (Nat.le_of_ble_eq_true rfl) ⟨Nat.zero_le _, Nat.zero_le _⟩ rfl rfl (Nat.le_of_ble_eq_true rfl) d_X7_isLetIn_3 ?_
  refine V.il2 g0 d_X7_isLetIn_6 ?_
  refine V.icmpeq g0 d_X7_isLetIn_7 (by omega) (fun c_7 => ?_) (fun c_7 => ?_)
  · skip
    have hfin : mayBe s p c (s 618) := Or.inl c_7
    refine V.iconst g0 d_X7_isLetIn_43 ?_
    refine V.goto g0 d_X7_isLetIn_44 ?_
    refine V.zret g d_X7_isLetIn_48 (by first | exact Or.inl rfl | exact Or.inr rfl | exact bI_01 _) (Nat.zero_le _) (Nat.zero_le _) ⟨congrArg (fun z => some (Value.int (iI z))) ?_, rfl, rfl⟩
    exact (bI_t hfin).symm
  · skip
    refine V.al0 g0 d_X7_isLetIn_10 ?_
    refine V.il1 g0 d_X7_isLetIn_11 ?_
    refine V.il2 g0 d_X7_isLetIn_12 ?_
    refine V.al0 g0 d_X7_isLetIn_13 ?_
    refine V.getf g0 d_X7_isLetIn_14 fl_X7_7 (by assumption) (by rfl) ?_
    refine V.sipush g0 d_X7_isLetIn_17 (by decide) ?_
    refine V.iald g0 d_X7_isLetIn_20 (by assumption) (by omega) (by decide) ?_
    refine V.callVp g0 (c_X7_isValidOn hs hk hp hc (by omega)) ky_X7_isValidOn ki_X7_isValidOn ks2_X7_isValidOn lk_X7_86 (by assumption) rfl rfl (Nat.le_of_ble_eq_true rfl) ⟨Nat.zero_le _, Nat.zero_le _⟩ rfl rfl (Nat.le_of_ble_eq_true rfl) d_X7_isLetIn_21 ?_
    refine V.ifeqB g0 d_X7_isLetIn_24 (fun c_24 => ?_) (fun c_24 => ?_)
    · skip
      have hno : ¬ mayBe s p c (s 618) := fun h => h.elim c_7 (fun h => c_24 h.1)
      refine V.iconst g0 d_X7_isLetIn_47 ?_
      refine V.zret g d_X7_isLetIn_48 (by first | exact Or.inl rfl | exact Or.inr rfl | exact bI_01 _) (Nat.zero_le _) (Nat.zero_le _) ⟨congrArg (fun z => some (Value.int (iI z))) ?_, rfl, rfl⟩
      exact (bI_f hno).symm
    · skip
      refine V.al0 g0 d_X7_isLetIn_27 ?_
      refine V.il1 g0 d_X7_isLetIn_28 ?_
      refine V.il2 g0 d_X7_isLetIn_29 ?_
      refine V.callVp g0 (c_X7_used hs hk hp hc) ky_X7_used ki_X7_used ks2_X7_used lk_X7_89 (by assumption) rfl rfl (Nat.le_of_ble_eq_true rfl) ⟨Nat.zero_le _, Nat.zero_le _⟩ rfl rfl (Nat.le_of_ble_eq_true rfl) d_X7_isLetIn_30 ?_
      refine V.al0 g0 d_X7_isLetIn_33 ?_
      refine V.il1 g0 d_X7_isLetIn_34 ?_
      refine V.il2 g0 d_X7_isLetIn_35 ?_
      refine V.iconst g0 d_X7_isLetIn_36 ?_
      refine V.callVp g0 (c_X7_ofVisa hs hp hc (by decide)) ky_X7_ofVisa ki_X7_ofVisa ks2_X7_ofVisa lk_X7_69 (by assumption) rfl rfl (Nat.le_of_ble_eq_true rfl) ⟨Nat.zero_le _, Nat.zero_le _⟩ rfl rfl (Nat.le_of_ble_eq_true rfl) d_X7_isLetIn_37 ?_
      refine V.icmpge g0 d_X7_isLetIn_40 (by omega) (fun c_40 => ?_) (fun c_40 => ?_)
      · skip
        have hno : ¬ mayBe s p c (s 618) := fun h => h.elim c_7 (fun h => c_40 h.2)
        refine V.iconst g0 d_X7_isLetIn_47 ?_
        refine V.zret g d_X7_isLetIn_48 (by first | exact Or.inl rfl | exact Or.inr rfl | exact bI_01 _) (Nat.zero_le _) (Nat.zero_le _) ⟨congrArg (fun z => some (Value.int (iI z))) ?_, rfl, rfl⟩
        exact (bI_f hno).symm
      · skip
        have hfin : mayBe s p c (s 618) := Or.inr ⟨c_24, c_40⟩
        refine V.iconst g0 d_X7_isLetIn_43 ?_
        refine V.goto g0 d_X7_isLetIn_44 ?_
        refine V.zret g d_X7_isLetIn_48 (by first | exact Or.inl rfl | exact Or.inr rfl | exact bI_01 _) (Nat.zero_le _) (Nat.zero_le _) ⟨congrArg (fun z => some (Value.int (iI z))) ?_, rfl, rfl⟩
        exact (bI_t hfin).symm

theorem d_X7_border_0 : Dc cX7_border 0 1 1 (.iload_n 0) := ⟨by decide +kernel, rfl⟩
theorem d_X7_border_1 : Dc cX7_border 1 1 2 (.iload_n 1) := ⟨by decide +kernel, rfl⟩
theorem d_X7_border_2 : Dj cX7_border 2 5 9 (.if_icmp .ge) := ⟨7, by decide +kernel, rfl, by decide⟩
theorem d_X7_border_5 : Dc cX7_border 5 1 6 (.iload_n 0) := ⟨by decide +kernel, rfl⟩
theorem d_X7_border_6 : Dj cX7_border 6 9 10 .goto := ⟨4, by decide +kernel, rfl, by decide⟩
theorem d_X7_border_9 : Dc cX7_border 9 1 10 (.iload_n 1) := ⟨by decide +kernel, rfl⟩
theorem d_X7_border_10 : Dc cX7_border 10 1 11 (.istore_n 2) := ⟨by decide +kernel, rfl⟩
theorem d_X7_border_11 : Dc cX7_border 11 1 12 (.iload_n 0) := ⟨by decide +kernel, rfl⟩
theorem d_X7_border_12 : Dc cX7_border 12 1 13 (.iload_n 1) := ⟨by decide +kernel, rfl⟩
theorem d_X7_border_13 : Dj cX7_border 13 16 20 (.if_icmp .ge) := ⟨7, by decide +kernel, rfl, by decide⟩
theorem d_X7_border_16 : Dc cX7_border 16 1 17 (.iload_n 1) := ⟨by decide +kernel, rfl⟩
theorem d_X7_border_17 : Dj cX7_border 17 20 21 .goto := ⟨4, by decide +kernel, rfl, by decide⟩
theorem d_X7_border_20 : Dc cX7_border 20 1 21 (.iload_n 0) := ⟨by decide +kernel, rfl⟩
theorem d_X7_border_21 : Dc cX7_border 21 1 22 (.istore_n 3) := ⟨by decide +kernel, rfl⟩
theorem d_X7_border_22 : Dc cX7_border 22 1 23 (.iconst 1) := ⟨by decide +kernel, rfl⟩
theorem d_X7_border_23 : Dc cX7_border 23 1 24 (.iconst 5) := ⟨by decide +kernel, rfl⟩
theorem d_X7_border_24 : Dc cX7_border 24 1 25 (.iload_n 2) := ⟨by decide +kernel, rfl⟩
theorem d_X7_border_25 : Dc cX7_border 25 1 26 .imul := ⟨by decide +kernel, rfl⟩
theorem d_X7_border_26 : Dc cX7_border 26 1 27 (.iload_n 3) := ⟨by decide +kernel, rfl⟩
theorem d_X7_border_27 : Dc cX7_border 27 1 28 .iadd := ⟨by decide +kernel, rfl⟩
theorem d_X7_border_28 : Dc cX7_border 28 1 29 (.iload_n 2) := ⟨by decide +kernel, rfl⟩
theorem d_X7_border_29 : Dc cX7_border 29 1 30 (.iload_n 2) := ⟨by decide +kernel, rfl⟩
theorem d_X7_border_30 : Dc cX7_border 30 1 31 (.iconst 1) := ⟨by decide +kernel, rfl⟩
theorem d_X7_border_31 : Dc cX7_border 31 1 32 .iadd := ⟨by decide +kernel, rfl⟩
theorem d_X7_border_32 : Dc cX7_border 32 1 33 .imul := ⟨by decide +kernel, rfl⟩
theorem d_X7_border_33 : Dc cX7_border 33 1 34 (.iconst 2) := ⟨by decide +kernel, rfl⟩
theorem d_X7_border_34 : Dc cX7_border 34 1 35 .idiv := ⟨by decide +kernel, rfl⟩
theorem d_X7_border_35 : Dc cX7_border 35 1 36 .isub := ⟨by decide +kernel, rfl⟩
theorem d_X7_border_36 : Dc cX7_border 36 1 37 (.iconst 1) := ⟨by decide +kernel, rfl⟩
theorem d_X7_border_37 : Dc cX7_border 37 1 38 .isub := ⟨by decide +kernel, rfl⟩
theorem d_X7_border_38 : Dc cX7_border 38 1 39 .ishl := ⟨by decide +kernel, rfl⟩
theorem d_X7_border_39 : decode cX7_border 39 = .ok (.ireturn, 1) := by decide +kernel
set_option maxHeartbeats 4000000 in
set_option maxRecDepth 20000 in
theorem c_X7_border {E : Ev} {n : Nat} {M : Mem} {a b : Int} (ha : 0 ≤ a ∧ a ≤ 5) (hb : 0 ≤ b ∧ b ≤ 5) (hn : a ≠ b) : MT E yX7_border cX7_border 4 (some .int) 0 0 0 [.int (iI a), .int (iI b)] n M (PF (some (.int (iI (((2 ^ (bitOf a b).toNat : Nat) : Int))))) n M) := by
  refine MT.of (by decide) rfl (Nat.le_of_ble_eq_true rfl) ?_
  intro X g
  have g0 := g.1
  show V E X 0 0 n M 0 [some (.int (iI a)), some (.int (iI b)), none, none] []
  have hbb := bitOf_b ha hb hn
  have hq := sq_b ha
  have hq2 := sq_b hb
  refine V.il0 g0 d_X7_border_0 ?_
  refine V.il1 g0 d_X7_border_1 ?_
  refine V.icmpge g0 d_X7_border_2 (by omega) (fun c_2 => ?_) (fun c_2 => ?_)
  · skip
    have hm1 : min a b = b := by omega
    have hm2 : max a b = a := by omega
    have he : 5 * b + a - b * (b + 1) / 2 - 1 = bitOf a b := by rw [bitOf, hm1, hm2]
    refine V.il1 g0 d_X7_border_9 ?_
    refine V.is2 g0 d_X7_border_10 ?_
    refine V.il0 g0 d_X7_border_11 ?_
    refine V.il1 g0 d_X7_border_12 ?_
    refine V.icmpge g0 d_X7_border_13 (by omega) (fun c_13 => ?_) (fun c_13 => ?_)
    · skip
      refine V.il0 g0 d_X7_border_20 ?_
      refine V.is3 g0 d_X7_border_21 ?_
      refine V.iconst g0 d_X7_border_22 ?_
      refine V.iconst g0 d_X7_border_23 ?_
      refine V.il2 g0 d_X7_border_24 ?_
      refine V.imul g0 d_X7_border_25 ?_
      refine V.il3 g0 d_X7_border_26 ?_
      refine V.iadd g0 d_X7_border_27 ?_
      refine V.il2 g0 d_X7_border_28 ?_
      refine V.il2 g0 d_X7_border_29 ?_
      refine V.iconst g0 d_X7_border_30 ?_
      refine V.iadd g0 d_X7_border_31 ?_
      refine V.imul g0 d_X7_border_32 ?_
      refine V.iconst g0 d_X7_border_33 ?_
      refine V.idiv g0 d_X7_border_34 (by omega) (by decide) ?_
      refine V.isub g0 d_X7_border_35 ?_
      refine V.iconst g0 d_X7_border_36 ?_
      refine V.isub g0 d_X7_border_37 ?_
      refine V.ishl g0 d_X7_border_38 (iI_shl1e he (by omega)) ?_
      refine V.iret g d_X7_border_39 (Nat.zero_le _) (Nat.zero_le _) ⟨congrArg (fun z => some (Value.int (iI z))) ?_, rfl, rfl⟩
      rfl
    · skip
      exfalso; omega
  · skip
    have hm1 : min a b = a := by omega
    have hm2 : max a b = b := by omega
    have he : 5 * a + b - a * (a + 1) / 2 - 1 = bitOf a b := by rw [bitOf, hm1, hm2]
    refine V.il0 g0 d_X7_border_5 ?_
    refine V.goto g0 d_X7_border_6 ?_
    refine V.is2 g0 d_X7_border_10 ?_
    refine V.il0 g0 d_X7_border_11 ?_
    refine V.il1 g0 d_X7_border_12 ?_
    refine V.icmpge g0 d_X7_border_13 (by omega) (fun c_13 => ?_) (fun c_13 => ?_)
    · skip
      exfalso; omega
    · skip
      refine V.il1 g0 d_X7_border_16 ?_
      refine V.goto g0 d_X7_border_17 ?_
      refine V.is3 g0 d_X7_border_21 ?_
      refine V.iconst g0 d_X7_border_22 ?_
      refine V.iconst g0 d_X7_border_23 ?_
      refine V.il2 g0 d_X7_border_24 ?_
      refine V.imul g0 d_X7_border_25 ?_
      refine V.il3 g0 d_X7_border_26 ?_
      refine V.iadd g0 d_X7_border_27 ?_
      refine V.il2 g0 d_X7_border_28 ?_
      refine V.il2 g0 d_X7_border_29 ?_
      refine V.iconst g0 d_X7_border_30 ?_
      refine V.iadd g0 d_X7_border_31 ?_
      refine V.imul g0 d_X7_border_32 ?_
      refine V.iconst g0 d_X7_border_33 ?_
      refine V.idiv g0 d_X7_border_34 (by omega) (by decide) ?_
      refine V.isub g0 d_X7_border_35 ?_
      refine V.iconst g0 d_X7_border_36 ?_
      refine V.isub g0 d_X7_border_37 ?_
      refine V.ishl g0 d_X7_border_38 (iI_shl1e he (by omega)) ?_
      refine V.iret g d_X7_border_39 (Nat.zero_le _) (Nat.zero_le _) ⟨congrArg (fun z => some (Value.int (iI z))) ?_, rfl, rfl⟩
      rfl

theorem d_X7_isOpen_0 : Dc cX7_isOpen 0 1 1 (.aload_n 0) := ⟨by decide +kernel, rfl⟩
theorem d_X7_isOpen_1 : Dc cX7_isOpen 1 3 4 (.getfield 7) := ⟨by decide +kernel, rfl⟩
theorem d_X7_isOpen_4 : Dc cX7_isOpen 4 3 7 (.sipush 620) := ⟨by decide +kernel, rfl⟩
theorem d_X7_isOpen_7 : Dc cX7_isOpen 7 1 8 .iaload := ⟨by decide +kernel, rfl⟩
theorem d_X7_isOpen_8 : Dc cX7_isOpen 8 1 9 (.iload_n 1) := ⟨by decide +kernel, rfl⟩
theorem d_X7_isOpen_9 : Dc cX7_isOpen 9 1 10 (.iload_n 2) := ⟨by decide +kernel, rfl⟩
theorem d_X7_isOpen_10 : Dc cX7_isOpen 10 3 13 (.invokestatic 92) := ⟨by decide +kernel, rfl⟩
theorem d_X7_isOpen_13 : Dc cX7_isOpen 13 1 14 .iand := ⟨by decide +kernel, rfl⟩
theorem d_X7_isOpen_14 : Dj cX7_isOpen 14 17 21 (.ifCond .ne) := ⟨7, by decide +kernel, rfl, by decide⟩
theorem d_X7_isOpen_17 : Dc cX7_isOpen 17 1 18 (.iconst 1) := ⟨by decide +kernel, rfl⟩
theorem d_X7_isOpen_18 : Dj cX7_isOpen 18 21 22 .goto := ⟨4, by decide +kernel, rfl, by decide⟩
theorem d_X7_isOpen_21 : Dc cX7_isOpen 21 1 22 (.iconst 0) := ⟨by decide +kernel, rfl⟩
theorem d_X7_isOpen_22 : decode cX7_isOpen 22 = .ok (.ireturn, 1) := by decide +kernel
set_option maxHeartbeats 4000000 in
set_option maxRecDepth 20000 in
theorem c_X7_isOpen {E : Ev} {n : Nat} {M : Mem} {m : Nat} {s : Int → Int} (hs : MS E M m s) {a b : Int} (hA : 0 ≤ a ∧ a ≤ 5) (hB : 0 ≤ b ∧ b ≤ 5) (hn : a ≠ b) (hcl : 0 ≤ s 620 ∧ s 620 < 32768) : MT E yX7_isOpen cX7_isOpen 3 (some .boolean) 1 0 0 [.ref m, .int (iI a), .int (iI b)] n M (PF (some (.int (iI (bI (isOpen s a b))))) n M) := by
  refine MT.of (by decide) rfl (Nat.le_of_ble_eq_true rfl) ?_
  intro X g
  have g0 := g.1
  show V E X 0 0 n M 0 [some (.ref m), some (.int (iI a)), some (.int (iI b))] []
  obtain ⟨⟨fr, hm⟩, ha⟩ := id hs
  have hle : (s 620).toNat &&& 2 ^ (bitOf a b).toNat ≤ (s 620).toNat := Nat.and_le_left
  refine V.al0 g0 d_X7_isOpen_0 ?_
  refine V.getf g0 d_X7_isOpen_1 fl_X7_7 (by assumption) (by rfl) ?_
  refine V.sipush g0 d_X7_isOpen_4 (by decide) ?_
  refine V.iald g0 d_X7_isOpen_7 (by assumption) (by omega) (by decide) ?_
  refine V.il1 g0 d_X7_isOpen_8 ?_
  refine V.il2 g0 d_X7_isOpen_9 ?_
  refine V.callSp g0 (c_X7_border hA hB hn) ky_X7_border ks_X7_border lk_X7_92 (Nat.le_of_ble_eq_true rfl) ⟨Nat.zero_le _, Nat.zero_le _⟩ rfl rfl (Nat.le_of_ble_eq_true rfl) d_X7_isOpen_10 ?_
  refine V.iand g0 d_X7_isOpen_13 (iI_andz hcl.1) ?_
  refine V.ifne g0 d_X7_isOpen_14 (by omega) (fun c_14 => ?_) (fun c_14 => ?_)
  · skip
    refine V.iconst g0 d_X7_isOpen_21 ?_
    refine V.zret g d_X7_isOpen_22 (by first | exact Or.inl rfl | exact Or.inr rfl | exact bI_01 _) (Nat.zero_le _) (Nat.zero_le _) ⟨congrArg (fun z => some (Value.int (iI z))) ?_, rfl, rfl⟩
    first | exact (bI_t ((fb_bit_nat _ _).mp (by omega))).symm | exact (bI_f (fun h => by have := (fb_bit_nat _ _).mpr h; omega)).symm
  · skip
    refine V.iconst g0 d_X7_isOpen_17 ?_
    refine V.goto g0 d_X7_isOpen_18 ?_
    refine V.zret g d_X7_isOpen_22 (by first | exact Or.inl rfl | exact Or.inr rfl | exact bI_01 _) (Nat.zero_le _) (Nat.zero_le _) ⟨congrArg (fun z => some (Value.int (iI z))) ?_, rfl, rfl⟩
    first | exact (bI_t ((fb_bit_nat _ _).mp (by omega))).symm | exact (bI_f (fun h => by have := (fb_bit_nat _ _).mpr h; omega)).symm

theorem d_X7_hindrance_0 : Dc cX7_hindrance 0 1 1 (.aload_n 0) := ⟨by decide +kernel, rfl⟩
theorem d_X7_hindrance_1 : Dc cX7_hindrance 1 1 2 (.iload_n 1) := ⟨by decide +kernel, rfl⟩
theorem d_X7_hindrance_2 : Dc cX7_hindrance 2 1 3 (.iconst 2) := ⟨by decide +kernel, rfl⟩
theorem d_X7_hindrance_3 : Dc cX7_hindrance 3 3 6 (.invokevirtual 50) := ⟨by decide +kernel, rfl⟩
theorem d_X7_hindrance_6 : Dc cX7_hindrance 6 2 8 (.istore 4) := ⟨by decide +kernel, rfl⟩
theorem d_X7_hindrance_8 : Dc cX7_hindrance 8 2 10 (.iload 4) := ⟨by decide +kernel, rfl⟩
theorem d_X7_hindrance_10 : Dc cX7_hindrance 10 1 11 (.iload_n 2) := ⟨by decide +kernel, rfl⟩
theorem d_X7_hindrance_11 : Dj cX7_hindrance 11 14 24 (.if_icmp .eq) := ⟨13, by decide +kernel, rfl, by decide⟩
theorem d_X7_hindrance_14 : Dc cX7_hindrance 14 1 15 (.aload_n 0) := ⟨by decide +kernel, rfl⟩
theorem d_X7_hindrance_15 : Dc cX7_hindrance 15 2 17 (.iload 4) := ⟨by decide +kernel, rfl⟩
theorem d_X7_hindrance_17 : Dc cX7_hindrance 17 1 18 (.iload_n 2) := ⟨by decide +kernel, rfl⟩
theorem d_X7_hindrance_18 : Dc cX7_hindrance 18 3 21 (.invokevirtual 95) := ⟨by decide +kernel, rfl⟩
theorem d_X7_hindrance_21 : Dj cX7_hindrance 21 24 36 (.ifCond .ne) := ⟨15, by decide +kernel, rfl, by decide⟩
theorem d_X7_hindrance_24 : Dc cX7_hindrance 24 2 26 (.iload 4) := ⟨by decide +kernel, rfl⟩
theorem d_X7_hindrance_26 : Dc cX7_hindrance 26 1 27 (.iload_n 2) := ⟨by decide +kernel, rfl⟩
theorem d_X7_hindrance_27 : Dj cX7_hindrance 27 30 34 (.if_icmp .ne) := ⟨7, by decide +kernel, rfl, by decide⟩
theorem d_X7_hindrance_30 : Dc cX7_hindrance 30 1 31 (.iconst 1) := ⟨by decide +kernel, rfl⟩
theorem d_X7_hindrance_31 : Dj cX7_hindrance 31 34 35 .goto := ⟨4, by decide +kernel, rfl, by decide⟩
theorem d_X7_hindrance_34 : Dc cX7_hindrance 34 1 35 (.iconst 2) := ⟨by decide +kernel, rfl⟩
theorem d_X7_hindrance_35 : decode cX7_hindrance 35 = .ok (.ireturn, 1) := by decide +kernel
theorem d_X7_hindrance_36 : Dc cX7_hindrance 36 1 37 (.aload_n 0) := ⟨by decide +kernel, rfl⟩
theorem d_X7_hindrance_37 : Dc cX7_hindrance 37 1 38 (.iload_n 1) := ⟨by decide +kernel, rfl⟩
theorem d_X7_hindrance_38 : Dc cX7_hindrance 38 1 39 (.iconst 0) := ⟨by decide +kernel, rfl⟩
theorem d_X7_hindrance_39 : Dc cX7_hindrance 39 3 42 (.invokevirtual 50) := ⟨by decide +kernel, rfl⟩
theorem d_X7_hindrance_42 : Dc cX7_hindrance 42 1 43 (.iload_n 2) := ⟨by decide +kernel, rfl⟩
theorem d_X7_hindrance_43 : Dj cX7_hindrance 43 46 65 (.if_icmp .eq) := ⟨22, by decide +kernel, rfl, by decide⟩
theorem d_X7_hindrance_46 : Dc cX7_hindrance 46 1 47 (.aload_n 0) := ⟨by decide +kernel, rfl⟩
theorem d_X7_hindrance_47 : Dc cX7_hindrance 47 1 48 (.iload_n 1) := ⟨by decide +kernel, rfl⟩
theorem d_X7_hindrance_48 : Dc cX7_hindrance 48 1 49 (.iload_n 2) := ⟨by decide +kernel, rfl⟩
theorem d_X7_hindrance_49 : Dc cX7_hindrance 49 1 50 (.aload_n 0) := ⟨by decide +kernel, rfl⟩
theorem d_X7_hindrance_50 : Dc cX7_hindrance 50 3 53 (.getfield 7) := ⟨by decide +kernel, rfl⟩
theorem d_X7_hindrance_53 : Dc cX7_hindrance 53 3 56 (.sipush 618) := ⟨by decide +kernel, rfl⟩
theorem d_X7_hindrance_56 : Dc cX7_hindrance 56 1 57 .iaload := ⟨by decide +kernel, rfl⟩
theorem d_X7_hindrance_57 : Dc cX7_hindrance 57 3 60 (.invokevirtual 86) := ⟨by decide +kernel, rfl⟩
theorem d_X7_hindrance_60 : Dj cX7_hindrance 60 63 65 (.ifCond .ne) := ⟨5, by decide +kernel, rfl, by decide⟩
theorem d_X7_hindrance_63 : Dc cX7_hindrance 63 1 64 (.iconst 3) := ⟨by decide +kernel, rfl⟩
theorem d_X7_hindrance_64 : decode cX7_hindrance 64 = .ok (.ireturn, 1) := by decide +kernel
theorem d_X7_hindrance_65 : Dc cX7_hindrance 65 1 66 (.aload_n 0) := ⟨by decide +kernel, rfl⟩
theorem d_X7_hindrance_66 : Dc cX7_hindrance 66 1 67 (.iload_n 1) := ⟨by decide +kernel, rfl⟩
theorem d_X7_hindrance_67 : Dc cX7_hindrance 67 1 68 (.iload_n 2) := ⟨by decide +kernel, rfl⟩
theorem d_X7_hindrance_68 : Dc cX7_hindrance 68 3 71 (.invokevirtual 98) := ⟨by decide +kernel, rfl⟩
theorem d_X7_hindrance_71 : Dj cX7_hindrance 71 74 76 (.ifCond .ne) := ⟨5, by decide +kernel, rfl, by decide⟩
theorem d_X7_hindrance_74 : Dc cX7_hindrance 74 1 75 (.iconst 4) := ⟨by decide +kernel, rfl⟩
theorem d_X7_hindrance_75 : decode cX7_hindrance 75 = .ok (.ireturn, 1) := by decide +kernel
theorem d_X7_hindrance_76 : Dc cX7_hindrance 76 1 77 (.aload_n 0) := ⟨by decide +kernel, rfl⟩
theorem d_X7_hindrance_77 : Dc cX7_hindrance 77 1 78 (.iload_n 1) := ⟨by decide +kernel, rfl⟩
theorem d_X7_hindrance_78 : Dc cX7_hindrance 78 2 80 (.bipush 8) := ⟨by decide +kernel, rfl⟩
theorem d_X7_hindrance_80 : Dc cX7_hindrance 80 3 83 (.invokevirtual 50) := ⟨by decide +kernel, rfl⟩
theorem d_X7_hindrance_83 : Dc cX7_hindrance 83 1 84 (.iload_n 3) := ⟨by decide +kernel, rfl⟩
theorem d_X7_hindrance_84 : Dc cX7_hindrance 84 1 85 .iadd := ⟨by decide +kernel, rfl⟩
theorem d_X7_hindrance_85 : Dc cX7_hindrance 85 2 87 (.bipush 16) := ⟨by decide +kernel, rfl⟩
theorem d_X7_hindrance_87 : Dj cX7_hindrance 87 90 94 (.if_icmp .le) := ⟨7, by decide +kernel, rfl, by decide⟩
theorem d_X7_hindrance_90 : Dc cX7_hindrance 90 1 91 (.iconst 5) := ⟨by decide +kernel, rfl⟩
theorem d_X7_hindrance_91 : Dj cX7_hindrance 91 94 111 .goto := ⟨20, by decide +kernel, rfl, by decide⟩
theorem d_X7_hindrance_94 : Dc cX7_hindrance 94 1 95 (.aload_n 0) := ⟨by decide +kernel, rfl⟩
theorem d_X7_hindrance_95 : Dc cX7_hindrance 95 1 96 (.iload_n 1) := ⟨by decide +kernel, rfl⟩
theorem d_X7_hindrance_96 : Dc cX7_hindrance 96 1 97 (.iconst 3) := ⟨by decide +kernel, rfl⟩
theorem d_X7_hindrance_97 : Dc cX7_hindrance 97 3 100 (.invokevirtual 50) := ⟨by decide +kernel, rfl⟩
theorem d_X7_hindrance_100 : Dc cX7_hindrance 100 2 102 (.bipush 60) := ⟨by decide +kernel, rfl⟩
theorem d_X7_hindrance_102 : Dj cX7_hindrance 102 105 110 (.if_icmp .ne) := ⟨8, by decide +kernel, rfl, by decide⟩
theorem d_X7_hindrance_105 : Dc cX7_hindrance 105 2 107 (.bipush 6) := ⟨by decide +kernel, rfl⟩
theorem d_X7_hindrance_107 : Dj cX7_hindrance 107 110 111 .goto := ⟨4, by decide +kernel, rfl, by decide⟩
theorem d_X7_hindrance_110 : Dc cX7_hindrance 110 1 111 (.iconst 0) := ⟨by decide +kernel, rfl⟩
theorem d_X7_hindrance_111 : decode cX7_hindrance 111 = .ok (.ireturn, 1) := by decide +kernel
set_option maxHeartbeats 4000000 in
set_option maxRecDepth 20000 in
theorem c_X7_hindrance {E : Ev} {n : Nat} {M : Mem} {m : Nat} {s : Int → Int} (hs : MS E M m s) {p : Int} (hk : OkP s p) (hp : 0 ≤ p ∧ p < 6) {c : Int} (hc : 0 ≤ c ∧ c < 6) {k : Int} (hkk : 0 ≤ k ∧ k ≤ 2) (hcl : 0 ≤ s 620 ∧ s 620 < 32768) : MT E yX7_hindrance cX7_hindrance 5 (some .int) 9 0 0 [.ref m, .int (iI p), .int (iI c), .int (iI k)] n M (PF (some (.int (iI (hindr s p c k)))) n M) := by
  refine MT.of (by decide) rfl (Nat.le_of_ble_eq_true rfl) ?_
  intro X g
  have g0 := g.1
  show V E X 0 0 n M 0 [some (.ref m), some (.int (iI p)), some (.int (iI c)), some (.int (iI k)), none] []
  obtain ⟨⟨fr, hm⟩, ha⟩ := id hs
  have hbg := hk.bgo
  have hh := hk.home
  have hw := hk.whr
  have hst := hk.stm
  have hcr := hk.crs
  refine V.al0 g0 d_X7_hindrance_0 ?_
  refine V.il1 g0 d_X7_hindrance_1 ?_
  refine V.iconst g0 d_X7_hindrance_2 ?_
  refine V.callVp g0 (c_X7_get hs (by omega)) ky_X7_get ki_X7_get ks2_X7_get lk_X7_50 (by assumption) rfl rfl (Nat.le_of_ble_eq_true rfl) ⟨Nat.zero_le _, Nat.zero_le _⟩ rfl rfl (Nat.le_of_ble_eq_true rfl) d_X7_hindrance_3 ?_
  refine V.is4 g0 d_X7_hindrance_6 ?_
  refine V.il4 g0 d_X7_hindrance_8 ?_
  refine V.il2 g0 d_X7_hindrance_10 ?_
  refine V.icmpeq g0 d_X7_hindrance_11 (by omega) (fun c_11 => ?_) (fun c_11 => ?_)
  · skip
    refine V.il4 g0 d_X7_hindrance_24 ?_
    refine V.il2 g0 d_X7_hindrance_26 ?_
    refine V.icmpne g0 d_X7_hindrance_27 (by omega) (fun c_27 => ?_) (fun c_27 => ?_)
    · skip
      exfalso; omega
    · skip
      refine V.iconst g0 d_X7_hindrance_30 ?_
      refine V.goto g0 d_X7_hindrance_31 ?_
      refine V.iret g d_X7_hindrance_35 (Nat.zero_le _) (Nat.zero_le _) ⟨congrArg (fun z => some (Value.int (iI z))) ?_, rfl, rfl⟩
      exact (hindr_1 c_11).symm
  · skip
    refine V.al0 g0 d_X7_hindrance_14 ?_
    refine V.il4 g0 d_X7_hindrance_15 ?_
    refine V.il2 g0 d_X7_hindrance_17 ?_
    refine V.callVp g0 (c_X7_isOpen hs hw (by omega) c_11 hcl) ky_X7_isOpen ki_X7_isOpen ks2_X7_isOpen lk_X7_95 (by assumption) rfl rfl (Nat.le_of_ble_eq_true rfl) ⟨Nat.zero_le _, Nat.zero_le _⟩ rfl rfl (Nat.le_of_ble_eq_true rfl) d_X7_hindrance_18 ?_
    refine V.ifneB g0 d_X7_hindrance_21 (fun c_21 => ?_) (fun c_21 => ?_)
    · skip
      refine V.al0 g0 d_X7_hindrance_36 ?_
      refine V.il1 g0 d_X7_hindrance_37 ?_
      refine V.iconst g0 d_X7_hindrance_38 ?_
      refine V.callVp g0 (c_X7_get hs (by omega)) ky_X7_get ki_X7_get ks2_X7_get lk_X7_50 (by assumption) rfl rfl (Nat.le_of_ble_eq_true rfl) ⟨Nat.zero_le _, Nat.zero_le _⟩ rfl rfl (Nat.le_of_ble_eq_true rfl) d_X7_hindrance_39 ?_
      refine V.il2 g0 d_X7_hindrance_42 ?_
      refine V.icmpeq g0 d_X7_hindrance_43 (by omega) (fun c_43 => ?_) (fun c_43 => ?_)
      · skip
        have h3 : s (103 * p + 0) = c ∨ validOn s p c (s 618) := Or.inl c_43
        refine V.al0 g0 d_X7_hindrance_65 ?_
        refine V.il1 g0 d_X7_hindrance_66 ?_
        refine V.il2 g0 d_X7_hindrance_67 ?_
        refine V.callVp g0 (c_X7_isLetIn hs hk hp hc) ky_X7_isLetIn ki_X7_isLetIn ks2_X7_isLetIn lk_X7_98 (by assumption) rfl rfl (Nat.le_of_ble_eq_true rfl) ⟨Nat.zero_le _, Nat.zero_le _⟩ rfl rfl (Nat.le_of_ble_eq_true rfl) d_X7_hindrance_68 ?_
        refine V.ifneB g0 d_X7_hindrance_71 (fun c_71 => ?_) (fun c_71 => ?_)
        · skip
          refine V.al0 g0 d_X7_hindrance_76 ?_
          refine V.il1 g0 d_X7_hindrance_77 ?_
          refine V.bipush g0 d_X7_hindrance_78 (by decide) ?_
          refine V.callVp g0 (c_X7_get hs (by omega)) ky_X7_get ki_X7_get ks2_X7_get lk_X7_50 (by assumption) rfl rfl (Nat.le_of_ble_eq_true rfl) ⟨Nat.zero_le _, Nat.zero_le _⟩ rfl rfl (Nat.le_of_ble_eq_true rfl) d_X7_hindrance_80 ?_
          refine V.il3 g0 d_X7_hindrance_83 ?_
          refine V.iadd g0 d_X7_hindrance_84 ?_
          refine V.bipush g0 d_X7_hindrance_85 (by decide) ?_
          refine V.icmple g0 d_X7_hindrance_87 (by omega) (fun c_87 => ?_) (fun c_87 => ?_)
          · skip
            refine V.al0 g0 d_X7_hindrance_94 ?_
            refine V.il1 g0 d_X7_hindrance_95 ?_
            refine V.iconst g0 d_X7_hindrance_96 ?_
            refine V.callVp g0 (c_X7_get hs (by omega)) ky_X7_get ki_X7_get ks2_X7_get lk_X7_50 (by assumption) rfl rfl (Nat.le_of_ble_eq_true rfl) ⟨Nat.zero_le _, Nat.zero_le _⟩ rfl rfl (Nat.le_of_ble_eq_true rfl) d_X7_hindrance_97 ?_
            refine V.bipush g0 d_X7_hindrance_100 (by decide) ?_
            refine V.icmpne g0 d_X7_hindrance_102 (by omega) (fun c_102 => ?_) (fun c_102 => ?_)
            · skip
              refine V.iconst g0 d_X7_hindrance_110 ?_
              refine V.iret g d_X7_hindrance_111 (Nat.zero_le _) (Nat.zero_le _) ⟨congrArg (fun z => some (Value.int (iI z))) ?_, rfl, rfl⟩
              exact (hindr_0 c_11 c_21 h3 c_71 (by omega) (by omega)).symm
            · skip
              refine V.bipush g0 d_X7_hindrance_105 (by decide) ?_
              refine V.goto g0 d_X7_hindrance_107 ?_
              refine V.iret g d_X7_hindrance_111 (Nat.zero_le _) (Nat.zero_le _) ⟨congrArg (fun z => some (Value.int (iI z))) ?_, rfl, rfl⟩
              exact (hindr_6 c_11 c_21 h3 c_71 (by omega) (by omega)).symm
          · skip
            refine V.iconst g0 d_X7_hindrance_90 ?_
            refine V.goto g0 d_X7_hindrance_91 ?_
            refine V.iret g d_X7_hindrance_111 (Nat.zero_le _) (Nat.zero_le _) ⟨congrArg (fun z => some (Value.int (iI z))) ?_, rfl, rfl⟩
            exact (hindr_5 c_11 c_21 h3 c_71 (by omega)).symm
        · skip
          refine V.iconst g0 d_X7_hindrance_74 ?_
          refine V.iret g d_X7_hindrance_75 (Nat.zero_le _) (Nat.zero_le _) ⟨congrArg (fun z => some (Value.int (iI z))) ?_, rfl, rfl⟩
          exact (hindr_4 c_11 c_21 h3 c_71).symm
      · skip
        refine V.al0 g0 d_X7_hindrance_46 ?_
        refine V.il1 g0 d_X7_hindrance_47 ?_
        refine V.il2 g0 d_X7_hindrance_48 ?_
        refine V.al0 g0 d_X7_hindrance_49 ?_
        refine V.getf g0 d_X7_hindrance_50 fl_X7_7 (by assumption) (by rfl) ?_
        refine V.sipush g0 d_X7_hindrance_53 (by decide) ?_
        refine V.iald g0 d_X7_hindrance_56 (by assumption) (by omega) (by decide) ?_
        refine V.callVp g0 (c_X7_isValidOn hs hk hp hc (by omega)) ky_X7_isValidOn ki_X7_isValidOn ks2_X7_isValidOn lk_X7_86 (by assumption) rfl rfl (Nat.le_of_ble_eq_true rfl) ⟨Nat.zero_le _, Nat.zero_le _⟩ rfl rfl (Nat.le_of_ble_eq_true rfl) d_X7_hindrance_57 ?_
        refine V.ifneB g0 d_X7_hindrance_60 (fun c_60 => ?_) (fun c_60 => ?_)
        · skip
          have h3 : s (103 * p + 0) = c ∨ validOn s p c (s 618) := Or.inr c_60
          refine V.al0 g0 d_X7_hindrance_65 ?_
          refine V.il1 g0 d_X7_hindrance_66 ?_
          refine V.il2 g0 d_X7_hindrance_67 ?_
          refine V.callVp g0 (c_X7_isLetIn hs hk hp hc) ky_X7_isLetIn ki_X7_isLetIn ks2_X7_isLetIn lk_X7_98 (by assumption) rfl rfl (Nat.le_of_ble_eq_true rfl) ⟨Nat.zero_le _, Nat.zero_le _⟩ rfl rfl (Nat.le_of_ble_eq_true rfl) d_X7_hindrance_68 ?_
          refine V.ifneB g0 d_X7_hindrance_71 (fun c_71 => ?_) (fun c_71 => ?_)
          · skip
            refine V.al0 g0 d_X7_hindrance_76 ?_
            refine V.il1 g0 d_X7_hindrance_77 ?_
            refine V.bipush g0 d_X7_hindrance_78 (by decide) ?_
            refine V.callVp g0 (c_X7_get hs (by omega)) ky_X7_get ki_X7_get ks2_X7_get lk_X7_50 (by assumption) rfl rfl (Nat.le_of_ble_eq_true rfl) ⟨Nat.zero_le _, Nat.zero_le _⟩ rfl rfl (Nat.le_of_ble_eq_true rfl) d_X7_hindrance_80 ?_
            refine V.il3 g0 d_X7_hindrance_83 ?_
            refine V.iadd g0 d_X7_hindrance_84 ?_
            refine V.bipush g0 d_X7_hindrance_85 (by decide) ?_
            refine V.icmple g0 d_X7_hindrance_87 (by omega) (fun c_87 => ?_) (fun c_87 => ?_)
            · skip
              refine V.al0 g0 d_X7_hindrance_94 ?_
              refine V.il1 g0 d_X7_hindrance_95 ?_
              refine V.iconst g0 d_X7_hindrance_96 ?_
              refine V.callVp g0 (c_X7_get hs (by omega)) ky_X7_get ki_X7_get ks2_X7_get lk_X7_50 (by assumption) rfl rfl (Nat.le_of_ble_eq_true rfl) ⟨Nat.zero_le _, Nat.zero_le _⟩ rfl rfl (Nat.le_of_ble_eq_true rfl) d_X7_hindrance_97 ?_
              refine V.bipush g0 d_X7_hindrance_100 (by decide) ?_
              refine V.icmpne g0 d_X7_hindrance_102 (by omega) (fun c_102 => ?_) (fun c_102 => ?_)
              · skip
                refine V.iconst g0 d_X7_hindrance_110 ?_
                refine V.iret g d_X7_hindrance_111 (Nat.zero_le _) (Nat.zero_le _) ⟨congrArg (fun z => some (Value.int (iI z))) ?_, rfl, rfl⟩
                exact (hindr_0 c_11 c_21 h3 c_71 (by omega) (by omega)).symm
              · skip
                refine V.bipush g0 d_X7_hindrance_105 (by decide) ?_
                refine V.goto g0 d_X7_hindrance_107 ?_
                refine V.iret g d_X7_hindrance_111 (Nat.zero_le _) (Nat.zero_le _) ⟨congrArg (fun z => some (Value.int (iI z))) ?_, rfl, rfl⟩
                exact (hindr_6 c_11 c_21 h3 c_71 (by omega) (by omega)).symm
            · skip
              refine V.iconst g0 d_X7_hindrance_90 ?_
              refine V.goto g0 d_X7_hindrance_91 ?_
              refine V.iret g d_X7_hindrance_111 (Nat.zero_le _) (Nat.zero_le _) ⟨congrArg (fun z => some (Value.int (iI z))) ?_, rfl, rfl⟩
              exact (hindr_5 c_11 c_21 h3 c_71 (by omega)).symm
          · skip
            refine V.iconst g0 d_X7_hindrance_74 ?_
            refine V.iret g d_X7_hindrance_75 (Nat.zero_le _) (Nat.zero_le _) ⟨congrArg (fun z => some (Value.int (iI z))) ?_, rfl, rfl⟩
            exact (hindr_4 c_11 c_21 h3 c_71).symm
        · skip
          refine V.iconst g0 d_X7_hindrance_63 ?_
          refine V.iret g d_X7_hindrance_64 (Nat.zero_le _) (Nat.zero_le _) ⟨congrArg (fun z => some (Value.int (iI z))) ?_, rfl, rfl⟩
          exact (hindr_3 c_11 c_21 c_43 c_60).symm
    · skip
      refine V.il4 g0 d_X7_hindrance_24 ?_
      refine V.il2 g0 d_X7_hindrance_26 ?_
      refine V.icmpne g0 d_X7_hindrance_27 (by omega) (fun c_27 => ?_) (fun c_27 => ?_)
      · skip
        refine V.iconst g0 d_X7_hindrance_34 ?_
        refine V.iret g d_X7_hindrance_35 (Nat.zero_le _) (Nat.zero_le _) ⟨congrArg (fun z => some (Value.int (iI z))) ?_, rfl, rfl⟩
        exact (hindr_2 c_11 c_21).symm
      · skip
        exfalso; omega
