theorem d_X7_in_0 : Dc cX7_in 0 1 1 (.iload_n 0) := ⟨by decide +kernel, rfl⟩
theorem d_X7_in_1 : Dc cX7_in 1 1 2 (.iload_n 1) := ⟨by decide +kernel, rfl⟩
theorem d_X7_in_2 : Dj cX7_in 2 5 14 (.if_icmp .lt) := ⟨12, by decide +kernel, rfl, by decide⟩
theorem d_X7_in_5 : Dc cX7_in 5 1 6 (.iload_n 0) := ⟨by decide +kernel, rfl⟩
theorem d_X7_in_6 : Dc cX7_in 6 1 7 (.iload_n 2) := ⟨by decide +kernel, rfl⟩
theorem d_X7_in_7 : Dj cX7_in 7 10 14 (.if_icmp .gt) := ⟨7, by decide +kernel, rfl, by decide⟩
theorem d_X7_in_10 : Dc cX7_in 10 1 11 (.iconst 1) := ⟨by decide +kernel, rfl⟩
theorem d_X7_in_11 : Dj cX7_in 11 14 15 .goto := ⟨4, by decide +kernel, rfl, by decide⟩
theorem d_X7_in_14 : Dc cX7_in 14 1 15 (.iconst 0) := ⟨by decide +kernel, rfl⟩
theorem d_X7_in_15 : decode cX7_in 15 = .ok (.ireturn, 1) := by decide +kernel
set_option maxHeartbeats 4000000 in
set_option maxRecDepth 20000 in
theorem c_X7_in {E : Ev} {n : Nat} {M : Mem} {v lo hi : Int} (h1 : rg v) (h2 : rg lo) (h3 : rg hi) : MT E yX7_in cX7_in 3 (some .boolean) 0 0 0 [.int (iI v), .int (iI lo), .int (iI hi)] n M (PF (some (.int (iI (bI (lo ≤ v ∧ v ≤ hi))))) n M) := by
  refine MT.of (by decide) rfl (Nat.le_of_ble_eq_true rfl) ?_
  intro X g
  have g0 := g.1
  show V E X 0 0 n M 0 [some (.int (iI v)), some (.int (iI lo)), some (.int (iI hi))] []
  refine V.il0 g0 d_X7_in_0 ?_
  refine V.il1 g0 d_X7_in_1 ?_
  refine V.icmplt g0 d_X7_in_2 (by omega) (fun c_2 => ?_) (fun c_2 => ?_)
  · skip
    refine V.iconst g0 d_X7_in_14 ?_
    refine V.zret g d_X7_in_15 (by first | exact Or.inl rfl | exact Or.inr rfl | exact bI_01 _) (Nat.zero_le _) (Nat.zero_le _) ⟨congrArg (fun z => some (Value.int (iI z))) ?_, rfl, rfl⟩
    first | exact (bI_t (by omega)).symm | exact (bI_f (by omega)).symm | exact bI_e (by omega) | rfl
  · skip
    refine V.il0 g0 d_X7_in_5 ?_
    refine V.il2 g0 d_X7_in_6 ?_
    refine V.icmpgt g0 d_X7_in_7 (by omega) (fun c_7 => ?_) (fun c_7 => ?_)
    · skip
      refine V.iconst g0 d_X7_in_14 ?_
      refine V.zret g d_X7_in_15 (by first | exact Or.inl rfl | exact Or.inr rfl | exact bI_01 _) (Nat.zero_le _) (Nat.zero_le _) ⟨congrArg (fun z => some (Value.int (iI z))) ?_, rfl, rfl⟩
      first | exact (bI_t (by omega)).symm | exact (bI_f (by omega)).symm | exact bI_e (by omega) | rfl
    · skip
      refine V.iconst g0 d_X7_in_10 ?_
      refine V.goto g0 d_X7_in_11 ?_
      refine V.zret g d_X7_in_15 (by first | exact Or.inl rfl | exact Or.inr rfl | exact bI_01 _) (Nat.zero_le _) (Nat.zero_le _) ⟨congrArg (fun z => some (Value.int (iI z))) ?_, rfl, rfl⟩
      first | exact (bI_t (by omega)).symm | exact (bI_f (by omega)).symm | exact bI_e (by omega) | rfl

theorem d_X7_isCountry_0 : Dc cX7_isCountry 0 1 1 (.iload_n 0) := ⟨by decide +kernel, rfl⟩
theorem d_X7_isCountry_1 : Dc cX7_isCountry 1 1 2 (.iconst 0) := ⟨by decide +kernel, rfl⟩
theorem d_X7_isCountry_2 : Dc cX7_isCountry 2 1 3 (.iconst 5) := ⟨by decide +kernel, rfl⟩
theorem d_X7_isCountry_3 : Dc cX7_isCountry 3 3 6 (.invokestatic 32) := ⟨by decide +kernel, rfl⟩
theorem d_X7_isCountry_6 : decode cX7_isCountry 6 = .ok (.ireturn, 1) := by decide +kernel
set_option maxHeartbeats 4000000 in
set_option maxRecDepth 20000 in
theorem c_X7_isCountry {E : Ev} {n : Nat} {M : Mem} {c : Int} (h1 : rg c) : MT E yX7_isCountry cX7_isCountry 1 (some .boolean) 1 0 0 [.int (iI c)] n M (PF (some (.int (iI (bI (0 ≤ c ∧ c ≤ 5))))) n M) := by
  refine MT.of (by decide) rfl (Nat.le_of_ble_eq_true rfl) ?_
  intro X g
  have g0 := g.1
  show V E X 0 0 n M 0 [some (.int (iI c))] []
  refine V.il0 g0 d_X7_isCountry_0 ?_
  refine V.iconst g0 d_X7_isCountry_1 ?_
  refine V.iconst g0 d_X7_isCountry_2 ?_
  refine V.callSp g0 (c_X7_in h1 (by decide) (by decide)) ky_X7_in ks_X7_in lk_X7_32 (Nat.le_of_ble_eq_true rfl) ⟨Nat.zero_le _, Nat.zero_le _⟩ rfl rfl (Nat.le_of_ble_eq_true rfl) d_X7_isCountry_3 ?_
  refine V.zret g d_X7_isCountry_6 (by first | exact Or.inl rfl | exact Or.inr rfl | exact bI_01 _) (Nat.zero_le _) (Nat.zero_le _) ⟨congrArg (fun z => some (Value.int (iI z))) ?_, rfl, rfl⟩
  first | exact (bI_t (by omega)).symm | exact (bI_f (by omega)).symm | exact bI_e (by omega) | rfl

theorem d_X7_isPassport_0 : Dc cX7_isPassport 0 1 1 (.iload_n 1) := ⟨by decide +kernel, rfl⟩
theorem d_X7_isPassport_1 : Dc cX7_isPassport 1 1 2 (.iconst 0) := ⟨by decide +kernel, rfl⟩
theorem d_X7_isPassport_2 : Dc cX7_isPassport 2 1 3 (.aload_n 0) := ⟨by decide +kernel, rfl⟩
theorem d_X7_isPassport_3 : Dc cX7_isPassport 3 3 6 (.getfield 7) := ⟨by decide +kernel, rfl⟩
theorem d_X7_isPassport_6 : Dc cX7_isPassport 6 3 9 (.sipush 619) := ⟨by decide +kernel, rfl⟩
theorem d_X7_isPassport_9 : Dc cX7_isPassport 9 1 10 .iaload := ⟨by decide +kernel, rfl⟩
theorem d_X7_isPassport_10 : Dc cX7_isPassport 10 1 11 (.iconst 1) := ⟨by decide +kernel, rfl⟩
theorem d_X7_isPassport_11 : Dc cX7_isPassport 11 1 12 .isub := ⟨by decide +kernel, rfl⟩
theorem d_X7_isPassport_12 : Dc cX7_isPassport 12 3 15 (.invokestatic 32) := ⟨by decide +kernel, rfl⟩
theorem d_X7_isPassport_15 : decode cX7_isPassport 15 = .ok (.ireturn, 1) := by decide +kernel
set_option maxHeartbeats 4000000 in
set_option maxRecDepth 20000 in
theorem c_X7_isPassport {E : Ev} {n : Nat} {M : Mem} {m : Nat} {s : Int → Int} (hs : MS E M m s) {p : Int} (h1 : rg p) (hk : 0 ≤ s 619 ∧ s 619 ≤ 6) : MT E yX7_isPassport cX7_isPassport 2 (some .boolean) 1 0 0 [.ref m, .int (iI p)] n M (PF (some (.int (iI (bI (0 ≤ p ∧ p ≤ s 619 - 1))))) n M) := by
  refine MT.of (by decide) rfl (Nat.le_of_ble_eq_true rfl) ?_
  intro X g
  have g0 := g.1
  show V E X 0 0 n M 0 [some (.ref m), some (.int (iI p))] []
  obtain ⟨⟨fr, hm⟩, ha⟩ := id hs
  refine V.il1 g0 d_X7_isPassport_0 ?_
  refine V.iconst g0 d_X7_isPassport_1 ?_
  refine V.al0 g0 d_X7_isPassport_2 ?_
  refine V.getf g0 d_X7_isPassport_3 fl_X7_7 (by assumption) (by rfl) ?_
  refine V.sipush g0 d_X7_isPassport_6 (by decide) ?_
  refine V.iald g0 d_X7_isPassport_9 (by assumption) (by omega) (by decide) ?_
  refine V.iconst g0 d_X7_isPassport_10 ?_
  refine V.isub g0 d_X7_isPassport_11 ?_
  refine V.callSp g0 (c_X7_in h1 (by decide) (by omega)) ky_X7_in ks_X7_in lk_X7_32 (Nat.le_of_ble_eq_true rfl) ⟨Nat.zero_le _, Nat.zero_le _⟩ rfl rfl (Nat.le_of_ble_eq_true rfl) d_X7_isPassport_12 ?_
  refine V.zret g d_X7_isPassport_15 (by first | exact Or.inl rfl | exact Or.inr rfl | exact bI_01 _) (Nat.zero_le _) (Nat.zero_le _) ⟨congrArg (fun z => some (Value.int (iI z))) ?_, rfl, rfl⟩
  first | exact (bI_t (by omega)).symm | exact (bI_f (by omega)).symm | exact bI_e (by omega) | rfl

theorem d_X7_areThere_0 : Dc cX7_areThere 0 1 1 (.aload_n 0) := ⟨by decide +kernel, rfl⟩
theorem d_X7_areThere_1 : Dc cX7_areThere 1 1 2 (.iload_n 1) := ⟨by decide +kernel, rfl⟩
theorem d_X7_areThere_2 : Dc cX7_areThere 2 3 5 (.invokevirtual 36) := ⟨by decide +kernel, rfl⟩
theorem d_X7_areThere_5 : Dj cX7_areThere 5 8 19 (.ifCond .eq) := ⟨14, by decide +kernel, rfl, by decide⟩
theorem d_X7_areThere_8 : Dc cX7_areThere 8 1 9 (.iload_n 2) := ⟨by decide +kernel, rfl⟩
theorem d_X7_areThere_9 : Dc cX7_areThere 9 3 12 (.invokestatic 40) := ⟨by decide +kernel, rfl⟩
theorem d_X7_areThere_12 : Dj cX7_areThere 12 15 19 (.ifCond .eq) := ⟨7, by decide +kernel, rfl, by decide⟩
theorem d_X7_areThere_15 : Dc cX7_areThere 15 1 16 (.iconst 1) := ⟨by decide +kernel, rfl⟩
theorem d_X7_areThere_16 : Dj cX7_areThere 16 19 20 .goto := ⟨4, by decide +kernel, rfl, by decide⟩
theorem d_X7_areThere_19 : Dc cX7_areThere 19 1 20 (.iconst 0) := ⟨by decide +kernel, rfl⟩
theorem d_X7_areThere_20 : decode cX7_areThere 20 = .ok (.ireturn, 1) := by decide +kernel
set_option maxHeartbeats 4000000 in
set_option maxRecDepth 20000 in
theorem c_X7_areThere {E : Ev} {n : Nat} {M : Mem} {m : Nat} {s : Int → Int} (hs : MS E M m s) {p c : Int} (h1 : rg p) (h2 : rg c) (hk : 0 ≤ s 619 ∧ s 619 ≤ 6) : MT E yX7_areThere cX7_areThere 3 (some .boolean) 2 0 0 [.ref m, .int (iI p), .int (iI c)] n M (PF (some (.int (iI (bI ((0 ≤ p ∧ p ≤ s 619 - 1) ∧ (0 ≤ c ∧ c ≤ 5)))))) n M) := by
  refine MT.of (by decide) rfl (Nat.le_of_ble_eq_true rfl) ?_
  intro X g
  have g0 := g.1
  show V E X 0 0 n M 0 [some (.ref m), some (.int (iI p)), some (.int (iI c))] []
  obtain ⟨⟨fr, hm⟩, ha⟩ := id hs
  refine V.al0 g0 d_X7_areThere_0 ?_
  refine V.il1 g0 d_X7_areThere_1 ?_
  refine V.callVp g0 (c_X7_isPassport hs h1 hk) ky_X7_isPassport ki_X7_isPassport ks2_X7_isPassport lk_X7_36 (by assumption) rfl rfl (Nat.le_of_ble_eq_true rfl) ⟨Nat.zero_le _, Nat.zero_le _⟩ rfl rfl (Nat.le_of_ble_eq_true rfl) d_X7_areThere_2 ?_
  refine V.ifeqB g0 d_X7_areThere_5 (fun c_5 => ?_) (fun c_5 => ?_)
  · skip
    refine V.iconst g0 d_X7_areThere_19 ?_
    refine V.zret g d_X7_areThere_20 (by first | exact Or.inl rfl | exact Or.inr rfl | exact bI_01 _) (Nat.zero_le _) (Nat.zero_le _) ⟨congrArg (fun z => some (Value.int (iI z))) ?_, rfl, rfl⟩
    first | exact (bI_t (by omega)).symm | exact (bI_f (by omega)).symm | exact bI_e (by omega) | rfl
  · skip
    refine V.il2 g0 d_X7_areThere_8 ?_
    refine V.callSp g0 (c_X7_isCountry h2) ky_X7_isCountry ks_X7_isCountry lk_X7_40 (Nat.le_of_ble_eq_true rfl) ⟨Nat.zero_le _, Nat.zero_le _⟩ rfl rfl (Nat.le_of_ble_eq_true rfl) d_X7_areThere_9 ?_
    refine V.ifeqB g0 d_X7_areThere_12 (fun c_12 => ?_) (fun c_12 => ?_)
    · skip
      refine V.iconst g0 d_X7_areThere_19 ?_
      refine V.zret g d_X7_areThere_20 (by first | exact Or.inl rfl | exact Or.inr rfl | exact bI_01 _) (Nat.zero_le _) (Nat.zero_le _) ⟨congrArg (fun z => some (Value.int (iI z))) ?_, rfl, rfl⟩
      first | exact (bI_t (by omega)).symm | exact (bI_f (by omega)).symm | exact bI_e (by omega) | rfl
    · skip
      refine V.iconst g0 d_X7_areThere_15 ?_
      refine V.goto g0 d_X7_areThere_16 ?_
      refine V.zret g d_X7_areThere_20 (by first | exact Or.inl rfl | exact Or.inr rfl | exact bI_01 _) (Nat.zero_le _) (Nat.zero_le _) ⟨congrArg (fun z => some (Value.int (iI z))) ?_, rfl, rfl⟩
      first | exact (bI_t (by omega)).symm | exact (bI_f (by omega)).symm | exact bI_e (by omega) | rfl

theorem d_X7_isSpan_0 : Dc cX7_isSpan 0 1 1 (.iload_n 0) := ⟨by decide +kernel, rfl⟩
theorem d_X7_isSpan_1 : Dc cX7_isSpan 1 1 2 (.iconst 0) := ⟨by decide +kernel, rfl⟩
theorem d_X7_isSpan_2 : Dc cX7_isSpan 2 3 5 (.sipush 999) := ⟨by decide +kernel, rfl⟩
theorem d_X7_isSpan_5 : Dc cX7_isSpan 5 3 8 (.invokestatic 32) := ⟨by decide +kernel, rfl⟩
theorem d_X7_isSpan_8 : Dj cX7_isSpan 8 11 26 (.ifCond .eq) := ⟨18, by decide +kernel, rfl, by decide⟩
theorem d_X7_isSpan_11 : Dc cX7_isSpan 11 1 12 (.iload_n 1) := ⟨by decide +kernel, rfl⟩
theorem d_X7_isSpan_12 : Dc cX7_isSpan 12 1 13 (.iload_n 0) := ⟨by decide +kernel, rfl⟩
theorem d_X7_isSpan_13 : Dc cX7_isSpan 13 3 16 (.sipush 999) := ⟨by decide +kernel, rfl⟩
theorem d_X7_isSpan_16 : Dc cX7_isSpan 16 3 19 (.invokestatic 32) := ⟨by decide +kernel, rfl⟩
theorem d_X7_isSpan_19 : Dj cX7_isSpan 19 22 26 (.ifCond .eq) := ⟨7, by decide +kernel, rfl, by decide⟩
theorem d_X7_isSpan_22 : Dc cX7_isSpan 22 1 23 (.iconst 1) := ⟨by decide +kernel, rfl⟩
theorem d_X7_isSpan_23 : Dj cX7_isSpan 23 26 27 .goto := ⟨4, by decide +kernel, rfl, by decide⟩
theorem d_X7_isSpan_26 : Dc cX7_isSpan 26 1 27 (.iconst 0) := ⟨by decide +kernel, rfl⟩
theorem d_X7_isSpan_27 : decode cX7_isSpan 27 = .ok (.ireturn, 1) := by decide +kernel
set_option maxHeartbeats 4000000 in
set_option maxRecDepth 20000 in
theorem c_X7_isSpan {E : Ev} {n : Nat} {M : Mem} {a b : Int} (h1 : rg a) (h2 : rg b) : MT E yX7_isSpan cX7_isSpan 2 (some .boolean) 1 0 0 [.int (iI a), .int (iI b)] n M (PF (some (.int (iI (bI ((0 ≤ a ∧ a ≤ 999) ∧ (a ≤ b ∧ b ≤ 999)))))) n M) := by
  refine MT.of (by decide) rfl (Nat.le_of_ble_eq_true rfl) ?_
  intro X g
  have g0 := g.1
  show V E X 0 0 n M 0 [some (.int (iI a)), some (.int (iI b))] []
  refine V.il0 g0 d_X7_isSpan_0 ?_
  refine V.iconst g0 d_X7_isSpan_1 ?_
  refine V.sipush g0 d_X7_isSpan_2 (by decide) ?_
  refine V.callSp g0 (c_X7_in h1 (by decide) (by decide)) ky_X7_in ks_X7_in lk_X7_32 (Nat.le_of_ble_eq_true rfl) ⟨Nat.zero_le _, Nat.zero_le _⟩ rfl rfl (Nat.le_of_ble_eq_true rfl) d_X7_isSpan_5 ?_
  refine V.ifeqB g0 d_X7_isSpan_8 (fun c_8 => ?_) (fun c_8 => ?_)
  · skip
    refine V.iconst g0 d_X7_isSpan_26 ?_
    refine V.zret g d_X7_isSpan_27 (by first | exact Or.inl rfl | exact Or.inr rfl | exact bI_01 _) (Nat.zero_le _) (Nat.zero_le _) ⟨congrArg (fun z => some (Value.int (iI z))) ?_, rfl, rfl⟩
    first | exact (bI_t (by omega)).symm | exact (bI_f (by omega)).symm | exact bI_e (by omega) | rfl
  · skip
    refine V.il1 g0 d_X7_isSpan_11 ?_
    refine V.il0 g0 d_X7_isSpan_12 ?_
    refine V.sipush g0 d_X7_isSpan_13 (by decide) ?_
    refine V.callSp g0 (c_X7_in h2 h1 (by decide)) ky_X7_in ks_X7_in lk_X7_32 (Nat.le_of_ble_eq_true rfl) ⟨Nat.zero_le _, Nat.zero_le _⟩ rfl rfl (Nat.le_of_ble_eq_true rfl) d_X7_isSpan_16 ?_
    refine V.ifeqB g0 d_X7_isSpan_19 (fun c_19 => ?_) (fun c_19 => ?_)
    · skip
      refine V.iconst g0 d_X7_isSpan_26 ?_
      refine V.zret g d_X7_isSpan_27 (by first | exact Or.inl rfl | exact Or.inr rfl | exact bI_01 _) (Nat.zero_le _) (Nat.zero_le _) ⟨congrArg (fun z => some (Value.int (iI z))) ?_, rfl, rfl⟩
      first | exact (bI_t (by omega)).symm | exact (bI_f (by omega)).symm | exact bI_e (by omega) | rfl
    · skip
      refine V.iconst g0 d_X7_isSpan_22 ?_
      refine V.goto g0 d_X7_isSpan_23 ?_
      refine V.zret g d_X7_isSpan_27 (by first | exact Or.inl rfl | exact Or.inr rfl | exact bI_01 _) (Nat.zero_le _) (Nat.zero_le _) ⟨congrArg (fun z => some (Value.int (iI z))) ?_, rfl, rfl⟩
      first | exact (bI_t (by omega)).symm | exact (bI_f (by omega)).symm | exact bI_e (by omega) | rfl

theorem d_X7_of_0 : Dc cX7_of 0 2 2 (.bipush 103) := ⟨by decide +kernel, rfl⟩
theorem d_X7_of_2 : Dc cX7_of 2 1 3 (.iload_n 0) := ⟨by decide +kernel, rfl⟩
theorem d_X7_of_3 : Dc cX7_of 3 1 4 .imul := ⟨by decide +kernel, rfl⟩
theorem d_X7_of_4 : Dc cX7_of 4 1 5 (.iload_n 1) := ⟨by decide +kernel, rfl⟩
theorem d_X7_of_5 : Dc cX7_of 5 1 6 .iadd := ⟨by decide +kernel, rfl⟩
theorem d_X7_of_6 : decode cX7_of 6 = .ok (.ireturn, 1) := by decide +kernel
set_option maxHeartbeats 4000000 in
set_option maxRecDepth 20000 in
theorem c_X7_of {E : Ev} {n : Nat} {M : Mem} {p w : Int} : MT E yX7_of cX7_of 2 (some .int) 0 0 0 [.int (iI p), .int (iI w)] n M (PF (some (.int (iI (103 * p + w)))) n M) := by
  refine MT.of (by decide) rfl (Nat.le_of_ble_eq_true rfl) ?_
  intro X g
  have g0 := g.1
  show V E X 0 0 n M 0 [some (.int (iI p)), some (.int (iI w))] []
  refine V.bipush g0 d_X7_of_0 (by decide) ?_
  refine V.il0 g0 d_X7_of_2 ?_
  refine V.imul g0 d_X7_of_3 ?_
  refine V.il1 g0 d_X7_of_4 ?_
  refine V.iadd g0 d_X7_of_5 ?_
  refine V.iret g d_X7_of_6 (Nat.zero_le _) (Nat.zero_le _) ⟨congrArg (fun z => some (Value.int (iI z))) ?_, rfl, rfl⟩
  rfl

theorem d_X7_get_0 : Dc cX7_get 0 1 1 (.aload_n 0) := ⟨by decide +kernel, rfl⟩
theorem d_X7_get_1 : Dc cX7_get 1 3 4 (.getfield 7) := ⟨by decide +kernel, rfl⟩
theorem d_X7_get_4 : Dc cX7_get 4 1 5 (.iload_n 1) := ⟨by decide +kernel, rfl⟩
theorem d_X7_get_5 : Dc cX7_get 5 1 6 (.iload_n 2) := ⟨by decide +kernel, rfl⟩
theorem d_X7_get_6 : Dc cX7_get 6 3 9 (.invokestatic 43) := ⟨by decide +kernel, rfl⟩
theorem d_X7_get_9 : Dc cX7_get 9 1 10 .iaload := ⟨by decide +kernel, rfl⟩
theorem d_X7_get_10 : decode cX7_get 10 = .ok (.ireturn, 1) := by decide +kernel
set_option maxHeartbeats 4000000 in
set_option maxRecDepth 20000 in
theorem c_X7_get {E : Ev} {n : Nat} {M : Mem} {m : Nat} {s : Int → Int} (hs : MS E M m s) {p w : Int} (hi : 0 ≤ 103 * p + w ∧ 103 * p + w < 622) : MT E yX7_get cX7_get 3 (some .int) 1 0 0 [.ref m, .int (iI p), .int (iI w)] n M (PF (some (.int (iI (s (103 * p + w))))) n M) := by
  refine MT.of (by decide) rfl (Nat.le_of_ble_eq_true rfl) ?_
  intro X g
  have g0 := g.1
  show V E X 0 0 n M 0 [some (.ref m), some (.int (iI p)), some (.int (iI w))] []
  obtain ⟨⟨fr, hm⟩, ha⟩ := id hs
  refine V.al0 g0 d_X7_get_0 ?_
  refine V.getf g0 d_X7_get_1 fl_X7_7 (by assumption) (by rfl) ?_
  refine V.il1 g0 d_X7_get_4 ?_
  refine V.il2 g0 d_X7_get_5 ?_
  refine V.callSp g0 c_X7_of ky_X7_of ks_X7_of lk_X7_43 (Nat.le_of_ble_eq_true rfl) ⟨Nat.zero_le _, Nat.zero_le _⟩ rfl rfl (Nat.le_of_ble_eq_true rfl) d_X7_get_6 ?_
  refine V.iald g0 d_X7_get_9 (by assumption) (by omega) (by decide) ?_
  refine V.iret g d_X7_get_10 (Nat.zero_le _) (Nat.zero_le _) ⟨congrArg (fun z => some (Value.int (iI z))) ?_, rfl, rfl⟩
  rfl

theorem d_X7_dayOf_0 : Dc cX7_dayOf 0 1 1 (.aload_n 0) := ⟨by decide +kernel, rfl⟩
theorem d_X7_dayOf_1 : Dc cX7_dayOf 1 1 2 (.iload_n 1) := ⟨by decide +kernel, rfl⟩
theorem d_X7_dayOf_2 : Dc cX7_dayOf 2 2 4 (.bipush 9) := ⟨by decide +kernel, rfl⟩
theorem d_X7_dayOf_4 : Dc cX7_dayOf 4 1 5 (.iload_n 2) := ⟨by decide +kernel, rfl⟩
theorem d_X7_dayOf_5 : Dc cX7_dayOf 5 1 6 .iadd := ⟨by decide +kernel, rfl⟩
theorem d_X7_dayOf_6 : Dc cX7_dayOf 6 3 9 (.invokevirtual 50) := ⟨by decide +kernel, rfl⟩
theorem d_X7_dayOf_9 : Dc cX7_dayOf 9 2 11 (.bipush 12) := ⟨by decide +kernel, rfl⟩
theorem d_X7_dayOf_11 : Dc cX7_dayOf 11 1 12 .idiv := ⟨by decide +kernel, rfl⟩
theorem d_X7_dayOf_12 : decode cX7_dayOf 12 = .ok (.ireturn, 1) := by decide +kernel
set_option maxHeartbeats 4000000 in
set_option maxRecDepth 20000 in
theorem c_X7_dayOf {E : Ev} {n : Nat} {M : Mem} {m : Nat} {s : Int → Int} (hs : MS E M m s) {p : Int} (hk : OkP s p) (hp : 0 ≤ p ∧ p < 6) {r : Int} (hr : 0 ≤ r ∧ r < s (103 * p + 8)) : MT E yX7_dayOf cX7_dayOf 3 (some .int) 2 0 0 [.ref m, .int (iI p), .int (iI r)] n M (PF (some (.int (iI (stD s p r)))) n M) := by
  refine MT.of (by decide) rfl (Nat.le_of_ble_eq_true rfl) ?_
  intro X g
  have g0 := g.1
  show V E X 0 0 n M 0 [some (.ref m), some (.int (iI p)), some (.int (iI r))] []
  obtain ⟨⟨fr, hm⟩, ha⟩ := id hs
  have hv := hk.st hr.1 hr.2
  have hst := hk.stm
  refine V.al0 g0 d_X7_dayOf_0 ?_
  refine V.il1 g0 d_X7_dayOf_1 ?_
  refine V.bipush g0 d_X7_dayOf_2 (by decide) ?_
  refine V.il2 g0 d_X7_dayOf_4 ?_
  refine V.iadd g0 d_X7_dayOf_5 ?_
  refine V.callVp g0 (c_X7_get hs (by omega)) ky_X7_get ki_X7_get ks2_X7_get lk_X7_50 (by assumption) rfl rfl (Nat.le_of_ble_eq_true rfl) ⟨Nat.zero_le _, Nat.zero_le _⟩ rfl rfl (Nat.le_of_ble_eq_true rfl) d_X7_dayOf_6 ?_
  refine V.bipush g0 d_X7_dayOf_9 (by decide) ?_
  refine V.idiv g0 d_X7_dayOf_11 (by omega) (by decide) ?_
  refine V.iret g d_X7_dayOf_12 (Nat.zero_le _) (Nat.zero_le _) ⟨congrArg (fun z => some (Value.int (iI z))) ?_, rfl, rfl⟩
  rfl

theorem d_X7_countryOf_0 : Dc cX7_countryOf 0 1 1 (.aload_n 0) := ⟨by decide +kernel, rfl⟩
theorem d_X7_countryOf_1 : Dc cX7_countryOf 1 1 2 (.iload_n 1) := ⟨by decide +kernel, rfl⟩
theorem d_X7_countryOf_2 : Dc cX7_countryOf 2 2 4 (.bipush 9) := ⟨by decide +kernel, rfl⟩
theorem d_X7_countryOf_4 : Dc cX7_countryOf 4 1 5 (.iload_n 2) := ⟨by decide +kernel, rfl⟩
theorem d_X7_countryOf_5 : Dc cX7_countryOf 5 1 6 .iadd := ⟨by decide +kernel, rfl⟩
theorem d_X7_countryOf_6 : Dc cX7_countryOf 6 3 9 (.invokevirtual 50) := ⟨by decide +kernel, rfl⟩
theorem d_X7_countryOf_9 : Dc cX7_countryOf 9 1 10 (.iconst 2) := ⟨by decide +kernel, rfl⟩
theorem d_X7_countryOf_10 : Dc cX7_countryOf 10 1 11 .idiv := ⟨by decide +kernel, rfl⟩
theorem d_X7_countryOf_11 : Dc cX7_countryOf 11 2 13 (.bipush 6) := ⟨by decide +kernel, rfl⟩
theorem d_X7_countryOf_13 : Dc cX7_countryOf 13 1 14 .irem := ⟨by decide +kernel, rfl⟩
theorem d_X7_countryOf_14 : decode cX7_countryOf 14 = .ok (.ireturn, 1) := by decide +kernel
set_option maxHeartbeats 4000000 in
set_option maxRecDepth 20000 in
theorem c_X7_countryOf {E : Ev} {n : Nat} {M : Mem} {m : Nat} {s : Int → Int} (hs : MS E M m s) {p : Int} (hk : OkP s p) (hp : 0 ≤ p ∧ p < 6) {r : Int} (hr : 0 ≤ r ∧ r < s (103 * p + 8)) : MT E yX7_countryOf cX7_countryOf 3 (some .int) 2 0 0 [.ref m, .int (iI p), .int (iI r)] n M (PF (some (.int (iI (stC s p r)))) n M) := by
  refine MT.of (by decide) rfl (Nat.le_of_ble_eq_true rfl) ?_
  intro X g
  have g0 := g.1
  show V E X 0 0 n M 0 [some (.ref m), some (.int (iI p)), some (.int (iI r))] []
  obtain ⟨⟨fr, hm⟩, ha⟩ := id hs
  have hv := hk.st hr.1 hr.2
  have hst := hk.stm
  refine V.al0 g0 d_X7_countryOf_0 ?_
  refine V.il1 g0 d_X7_countryOf_1 ?_
  refine V.bipush g0 d_X7_countryOf_2 (by decide) ?_
  refine V.il2 g0 d_X7_countryOf_4 ?_
  refine V.iadd g0 d_X7_countryOf_5 ?_
  refine V.callVp g0 (c_X7_get hs (by omega)) ky_X7_get ki_X7_get ks2_X7_get lk_X7_50 (by assumption) rfl rfl (Nat.le_of_ble_eq_true rfl) ⟨Nat.zero_le _, Nat.zero_le _⟩ rfl rfl (Nat.le_of_ble_eq_true rfl) d_X7_countryOf_6 ?_
  refine V.iconst g0 d_X7_countryOf_9 ?_
  refine V.idiv g0 d_X7_countryOf_10 (by omega) (by decide) ?_
  refine V.bipush g0 d_X7_countryOf_11 (by decide) ?_
  refine V.irem g0 d_X7_countryOf_13 (by omega) (by decide) ?_
  refine V.iret g d_X7_countryOf_14 (Nat.zero_le _) (Nat.zero_le _) ⟨congrArg (fun z => some (Value.int (iI z))) ?_, rfl, rfl⟩
  rfl

theorem d_X7_isEntry_0 : Dc cX7_isEntry 0 1 1 (.aload_n 0) := ⟨by decide +kernel, rfl⟩
theorem d_X7_isEntry_1 : Dc cX7_isEntry 1 1 2 (.iload_n 1) := ⟨by decide +kernel, rfl⟩
theorem d_X7_isEntry_2 : Dc cX7_isEntry 2 2 4 (.bipush 9) := ⟨by decide +kernel, rfl⟩
theorem d_X7_isEntry_4 : Dc cX7_isEntry 4 1 5 (.iload_n 2) := ⟨by decide +kernel, rfl⟩
theorem d_X7_isEntry_5 : Dc cX7_isEntry 5 1 6 .iadd := ⟨by decide +kernel, rfl⟩
theorem d_X7_isEntry_6 : Dc cX7_isEntry 6 3 9 (.invokevirtual 50) := ⟨by decide +kernel, rfl⟩
theorem d_X7_isEntry_9 : Dc cX7_isEntry 9 1 10 (.iconst 2) := ⟨by decide +kernel, rfl⟩
theorem d_X7_isEntry_10 : Dc cX7_isEntry 10 1 11 .irem := ⟨by decide +kernel, rfl⟩
theorem d_X7_isEntry_11 : Dc cX7_isEntry 11 1 12 (.iconst 1) := ⟨by decide +kernel, rfl⟩
theorem d_X7_isEntry_12 : Dj cX7_isEntry 12 15 19 (.if_icmp .ne) := ⟨7, by decide +kernel, rfl, by decide⟩
theorem d_X7_isEntry_15 : Dc cX7_isEntry 15 1 16 (.iconst 1) := ⟨by decide +kernel, rfl⟩
theorem d_X7_isEntry_16 : Dj cX7_isEntry 16 19 20 .goto := ⟨4, by decide +kernel, rfl, by decide⟩
theorem d_X7_isEntry_19 : Dc cX7_isEntry 19 1 20 (.iconst 0) := ⟨by decide +kernel, rfl⟩
theorem d_X7_isEntry_20 : decode cX7_isEntry 20 = .ok (.ireturn, 1) := by decide +kernel
set_option maxHeartbeats 4000000 in
set_option maxRecDepth 20000 in
theorem c_X7_isEntry {E : Ev} {n : Nat} {M : Mem} {m : Nat} {s : Int → Int} (hs : MS E M m s) {p : Int} (hk : OkP s p) (hp : 0 ≤ p ∧ p < 6) {r : Int} (hr : 0 ≤ r ∧ r < s (103 * p + 8)) : MT E yX7_isEntry cX7_isEntry 3 (some .boolean) 2 0 0 [.ref m, .int (iI p), .int (iI r)] n M (PF (some (.int (iI (bI (isE s p r))))) n M) := by
  refine MT.of (by decide) rfl (Nat.le_of_ble_eq_true rfl) ?_
  intro X g
  have g0 := g.1
  show V E X 0 0 n M 0 [some (.ref m), some (.int (iI p)), some (.int (iI r))] []
  obtain ⟨⟨fr, hm⟩, ha⟩ := id hs
  have hv := hk.st hr.1 hr.2
  have hst := hk.stm
  refine V.al0 g0 d_X7_isEntry_0 ?_
  refine V.il1 g0 d_X7_isEntry_1 ?_
  refine V.bipush g0 d_X7_isEntry_2 (by decide) ?_
  refine V.il2 g0 d_X7_isEntry_4 ?_
  refine V.iadd g0 d_X7_isEntry_5 ?_
  refine V.callVp g0 (c_X7_get hs (by omega)) ky_X7_get ki_X7_get ks2_X7_get lk_X7_50 (by assumption) rfl rfl (Nat.le_of_ble_eq_true rfl) ⟨Nat.zero_le _, Nat.zero_le _⟩ rfl rfl (Nat.le_of_ble_eq_true rfl) d_X7_isEntry_6 ?_
  refine V.iconst g0 d_X7_isEntry_9 ?_
  refine V.irem g0 d_X7_isEntry_10 (by omega) (by decide) ?_
  refine V.iconst g0 d_X7_isEntry_11 ?_
  refine V.icmpne g0 d_X7_isEntry_12 (by omega) (fun c_12 => ?_) (fun c_12 => ?_)
  · skip
    refine V.iconst g0 d_X7_isEntry_19 ?_
    refine V.zret g d_X7_isEntry_20 (by first | exact Or.inl rfl | exact Or.inr rfl | exact bI_01 _) (Nat.zero_le _) (Nat.zero_le _) ⟨congrArg (fun z => some (Value.int (iI z))) ?_, rfl, rfl⟩
    first | exact (bI_t c_12).symm | exact (bI_f c_12).symm
  · skip
    refine V.iconst g0 d_X7_isEntry_15 ?_
    refine V.goto g0 d_X7_isEntry_16 ?_
    refine V.zret g d_X7_isEntry_20 (by first | exact Or.inl rfl | exact Or.inr rfl | exact bI_01 _) (Nat.zero_le _) (Nat.zero_le _) ⟨congrArg (fun z => some (Value.int (iI z))) ?_, rfl, rfl⟩
    first | exact (bI_t c_12).symm | exact (bI_f c_12).symm

theorem d_X7_toldBy_0 : Dc cX7_toldBy 0 1 1 (.iload_n 2) := ⟨by decide +kernel, rfl⟩
theorem d_X7_toldBy_1 : Dj cX7_toldBy 1 4 12 (.ifCond .ne) := ⟨11, by decide +kernel, rfl, by decide⟩
theorem d_X7_toldBy_4 : Dc cX7_toldBy 4 1 5 (.aload_n 0) := ⟨by decide +kernel, rfl⟩
theorem d_X7_toldBy_5 : Dc cX7_toldBy 5 1 6 (.iload_n 1) := ⟨by decide +kernel, rfl⟩
theorem d_X7_toldBy_6 : Dc cX7_toldBy 6 2 8 (.bipush 6) := ⟨by decide +kernel, rfl⟩
theorem d_X7_toldBy_8 : Dc cX7_toldBy 8 3 11 (.invokevirtual 50) := ⟨by decide +kernel, rfl⟩
theorem d_X7_toldBy_11 : decode cX7_toldBy 11 = .ok (.ireturn, 1) := by decide +kernel
theorem d_X7_toldBy_12 : Dc cX7_toldBy 12 1 13 (.aload_n 0) := ⟨by decide +kernel, rfl⟩
theorem d_X7_toldBy_13 : Dc cX7_toldBy 13 1 14 (.iload_n 1) := ⟨by decide +kernel, rfl⟩
theorem d_X7_toldBy_14 : Dc cX7_toldBy 14 1 15 (.iload_n 2) := ⟨by decide +kernel, rfl⟩
theorem d_X7_toldBy_15 : Dc cX7_toldBy 15 1 16 (.iconst 1) := ⟨by decide +kernel, rfl⟩
theorem d_X7_toldBy_16 : Dc cX7_toldBy 16 1 17 .isub := ⟨by decide +kernel, rfl⟩
theorem d_X7_toldBy_17 : Dc cX7_toldBy 17 3 20 (.invokevirtual 53) := ⟨by decide +kernel, rfl⟩
theorem d_X7_toldBy_20 : Dj cX7_toldBy 20 23 34 (.ifCond .eq) := ⟨14, by decide +kernel, rfl, by decide⟩
theorem d_X7_toldBy_23 : Dc cX7_toldBy 23 1 24 (.aload_n 0) := ⟨by decide +kernel, rfl⟩
theorem d_X7_toldBy_24 : Dc cX7_toldBy 24 1 25 (.iload_n 1) := ⟨by decide +kernel, rfl⟩
theorem d_X7_toldBy_25 : Dc cX7_toldBy 25 1 26 (.iload_n 2) := ⟨by decide +kernel, rfl⟩
theorem d_X7_toldBy_26 : Dc cX7_toldBy 26 1 27 (.iconst 1) := ⟨by decide +kernel, rfl⟩
theorem d_X7_toldBy_27 : Dc cX7_toldBy 27 1 28 .isub := ⟨by decide +kernel, rfl⟩
theorem d_X7_toldBy_28 : Dc cX7_toldBy 28 3 31 (.invokevirtual 57) := ⟨by decide +kernel, rfl⟩
theorem d_X7_toldBy_31 : Dj cX7_toldBy 31 34 36 .goto := ⟨5, by decide +kernel, rfl, by decide⟩
theorem d_X7_toldBy_34 : Dc cX7_toldBy 34 2 36 (.bipush (-5)) := ⟨by decide +kernel, rfl⟩
theorem d_X7_toldBy_36 : decode cX7_toldBy 36 = .ok (.ireturn, 1) := by decide +kernel
set_option maxHeartbeats 4000000 in
set_option maxRecDepth 20000 in
theorem c_X7_toldBy {E : Ev} {n : Nat} {M : Mem} {m : Nat} {s : Int → Int} (hs : MS E M m s) {p : Int} (hk : OkP s p) (hp : 0 ≤ p ∧ p < 6) {k : Int} (hr : 0 ≤ k ∧ k ≤ s (103 * p + 8)) : MT E yX7_toldBy cX7_toldBy 3 (some .int) 3 0 0 [.ref m, .int (iI p), .int (iI k)] n M (PF (some (.int (iI (bP s p k)))) n M) := by
  refine MT.of (by decide) rfl (Nat.le_of_ble_eq_true rfl) ?_
  intro X g
  have g0 := g.1
  show V E X 0 0 n M 0 [some (.ref m), some (.int (iI p)), some (.int (iI k))] []
  obtain ⟨⟨fr, hm⟩, ha⟩ := id hs
  have hst := hk.stm
  refine V.il2 g0 d_X7_toldBy_0 ?_
  refine V.ifne g0 d_X7_toldBy_1 (by omega) (fun c_1 => ?_) (fun c_1 => ?_)
  · skip
    refine V.al0 g0 d_X7_toldBy_12 ?_
    refine V.il1 g0 d_X7_toldBy_13 ?_
    refine V.il2 g0 d_X7_toldBy_14 ?_
    refine V.iconst g0 d_X7_toldBy_15 ?_
    refine V.isub g0 d_X7_toldBy_16 ?_
    refine V.callVp g0 (c_X7_isEntry hs hk hp (by omega)) ky_X7_isEntry ki_X7_isEntry ks2_X7_isEntry lk_X7_53 (by assumption) rfl rfl (Nat.le_of_ble_eq_true rfl) ⟨Nat.zero_le _, Nat.zero_le _⟩ rfl rfl (Nat.le_of_ble_eq_true rfl) d_X7_toldBy_17 ?_
    refine V.ifeqB g0 d_X7_toldBy_20 (fun c_20 => ?_) (fun c_20 => ?_)
    · skip
      refine V.bipush g0 d_X7_toldBy_34 (by decide) ?_
      refine V.iret g d_X7_toldBy_36 (Nat.zero_le _) (Nat.zero_le _) ⟨congrArg (fun z => some (Value.int (iI z))) ?_, rfl, rfl⟩
      first | (rw [bP, if_pos c_1]; done) | (rw [bP, if_neg c_1, if_pos c_20]; done) | (rw [bP, if_neg c_1, if_neg c_20]; done)
    · skip
      refine V.al0 g0 d_X7_toldBy_23 ?_
      refine V.il1 g0 d_X7_toldBy_24 ?_
      refine V.il2 g0 d_X7_toldBy_25 ?_
      refine V.iconst g0 d_X7_toldBy_26 ?_
      refine V.isub g0 d_X7_toldBy_27 ?_
      refine V.callVp g0 (c_X7_countryOf hs hk hp (by omega)) ky_X7_countryOf ki_X7_countryOf ks2_X7_countryOf lk_X7_57 (by assumption) rfl rfl (Nat.le_of_ble_eq_true rfl) ⟨Nat.zero_le _, Nat.zero_le _⟩ rfl rfl (Nat.le_of_ble_eq_true rfl) d_X7_toldBy_28 ?_
      refine V.goto g0 d_X7_toldBy_31 ?_
      refine V.iret g d_X7_toldBy_36 (Nat.zero_le _) (Nat.zero_le _) ⟨congrArg (fun z => some (Value.int (iI z))) ?_, rfl, rfl⟩
      first | (rw [bP, if_pos c_1]; done) | (rw [bP, if_neg c_1, if_pos c_20]; done) | (rw [bP, if_neg c_1, if_neg c_20]; done)
  · skip
    refine V.al0 g0 d_X7_toldBy_4 ?_
    refine V.il1 g0 d_X7_toldBy_5 ?_
    refine V.bipush g0 d_X7_toldBy_6 (by decide) ?_
    refine V.callVp g0 (c_X7_get hs (by omega)) ky_X7_get ki_X7_get ks2_X7_get lk_X7_50 (by assumption) rfl rfl (Nat.le_of_ble_eq_true rfl) ⟨Nat.zero_le _, Nat.zero_le _⟩ rfl rfl (Nat.le_of_ble_eq_true rfl) d_X7_toldBy_8 ?_
    refine V.iret g d_X7_toldBy_11 (Nat.zero_le _) (Nat.zero_le _) ⟨congrArg (fun z => some (Value.int (iI z))) ?_, rfl, rfl⟩
    first | (rw [bP, if_pos c_1]; done) | (rw [bP, if_neg c_1, if_pos c_20]; done) | (rw [bP, if_neg c_1, if_neg c_20]; done)

theorem d_X7_isGap_0 : Dc cX7_isGap 0 1 1 (.aload_n 0) := ⟨by decide +kernel, rfl⟩
theorem d_X7_isGap_1 : Dc cX7_isGap 1 1 2 (.iload_n 1) := ⟨by decide +kernel, rfl⟩
theorem d_X7_isGap_2 : Dc cX7_isGap 2 1 3 (.iload_n 2) := ⟨by decide +kernel, rfl⟩
theorem d_X7_isGap_3 : Dc cX7_isGap 3 3 6 (.invokevirtual 60) := ⟨by decide +kernel, rfl⟩
theorem d_X7_isGap_6 : Dc cX7_isGap 6 1 7 (.istore_n 3) := ⟨by decide +kernel, rfl⟩
theorem d_X7_isGap_7 : Dc cX7_isGap 7 1 8 (.aload_n 0) := ⟨by decide +kernel, rfl⟩
theorem d_X7_isGap_8 : Dc cX7_isGap 8 1 9 (.iload_n 1) := ⟨by decide +kernel, rfl⟩
theorem d_X7_isGap_9 : Dc cX7_isGap 9 1 10 (.iload_n 2) := ⟨by decide +kernel, rfl⟩
theorem d_X7_isGap_10 : Dc cX7_isGap 10 3 13 (.invokevirtual 53) := ⟨by decide +kernel, rfl⟩
theorem d_X7_isGap_13 : Dj cX7_isGap 13 16 30 (.ifCond .eq) := ⟨17, by decide +kernel, rfl, by decide⟩
theorem d_X7_isGap_16 : Dc cX7_isGap 16 1 17 (.iload_n 3) := ⟨by decide +kernel, rfl⟩
theorem d_X7_isGap_17 : Dc cX7_isGap 17 2 19 (.bipush (-5)) := ⟨by decide +kernel, rfl⟩
theorem d_X7_isGap_19 : Dj cX7_isGap 19 22 26 (.if_icmp .eq) := ⟨7, by decide +kernel, rfl, by decide⟩
theorem d_X7_isGap_22 : Dc cX7_isGap 22 1 23 (.iconst 1) := ⟨by decide +kernel, rfl⟩
theorem d_X7_isGap_23 : Dj cX7_isGap 23 26 45 .goto := ⟨22, by decide +kernel, rfl, by decide⟩
theorem d_X7_isGap_26 : Dc cX7_isGap 26 1 27 (.iconst 0) := ⟨by decide +kernel, rfl⟩
theorem d_X7_isGap_27 : Dj cX7_isGap 27 30 45 .goto := ⟨18, by decide +kernel, rfl, by decide⟩
theorem d_X7_isGap_30 : Dc cX7_isGap 30 1 31 (.iload_n 3) := ⟨by decide +kernel, rfl⟩
theorem d_X7_isGap_31 : Dc cX7_isGap 31 1 32 (.aload_n 0) := ⟨by decide +kernel, rfl⟩
theorem d_X7_isGap_32 : Dc cX7_isGap 32 1 33 (.iload_n 1) := ⟨by decide +kernel, rfl⟩
theorem d_X7_isGap_33 : Dc cX7_isGap 33 1 34 (.iload_n 2) := ⟨by decide +kernel, rfl⟩
theorem d_X7_isGap_34 : Dc cX7_isGap 34 3 37 (.invokevirtual 57) := ⟨by decide +kernel, rfl⟩
theorem d_X7_isGap_37 : Dj cX7_isGap 37 40 44 (.if_icmp .eq) := ⟨7, by decide +kernel, rfl, by decide⟩
theorem d_X7_isGap_40 : Dc cX7_isGap 40 1 41 (.iconst 1) := ⟨by decide +kernel, rfl⟩
theorem d_X7_isGap_41 : Dj cX7_isGap 41 44 45 .goto := ⟨4, by decide +kernel, rfl, by decide⟩
theorem d_X7_isGap_44 : Dc cX7_isGap 44 1 45 (.iconst 0) := ⟨by decide +kernel, rfl⟩
theorem d_X7_isGap_45 : decode cX7_isGap 45 = .ok (.ireturn, 1) := by decide +kernel
set_option maxHeartbeats 4000000 in
set_option maxRecDepth 20000 in
theorem c_X7_isGap {E : Ev} {n : Nat} {M : Mem} {m : Nat} {s : Int → Int} (hs : MS E M m s) {p : Int} (hk : OkP s p) (hp : 0 ≤ p ∧ p < 6) {r : Int} (hr : 0 ≤ r ∧ r < s (103 * p + 8)) : MT E yX7_isGap cX7_isGap 4 (some .boolean) 4 0 0 [.ref m, .int (iI p), .int (iI r)] n M (PF (some (.int (iI (bI (isGap s p r))))) n M) := by
  refine MT.of (by decide) rfl (Nat.le_of_ble_eq_true rfl) ?_
  intro X g
  have g0 := g.1
  show V E X 0 0 n M 0 [some (.ref m), some (.int (iI p)), some (.int (iI r)), none] []
  obtain ⟨⟨fr, hm⟩, ha⟩ := id hs
  have hb := bP_b hk r
  have hc := stC_b s p r
  refine V.al0 g0 d_X7_isGap_0 ?_
  refine V.il1 g0 d_X7_isGap_1 ?_
  refine V.il2 g0 d_X7_isGap_2 ?_
  refine V.callVp g0 (c_X7_toldBy hs hk hp (by omega)) ky_X7_toldBy ki_X7_toldBy ks2_X7_toldBy lk_X7_60 (by assumption) rfl rfl (Nat.le_of_ble_eq_true rfl) ⟨Nat.zero_le _, Nat.zero_le _⟩ rfl rfl (Nat.le_of_ble_eq_true rfl) d_X7_isGap_3 ?_
  refine V.is3 g0 d_X7_isGap_6 ?_
  refine V.al0 g0 d_X7_isGap_7 ?_
  refine V.il1 g0 d_X7_isGap_8 ?_
  refine V.il2 g0 d_X7_isGap_9 ?_
  refine V.callVp g0 (c_X7_isEntry hs hk hp hr) ky_X7_isEntry ki_X7_isEntry ks2_X7_isEntry lk_X7_53 (by assumption) rfl rfl (Nat.le_of_ble_eq_true rfl) ⟨Nat.zero_le _, Nat.zero_le _⟩ rfl rfl (Nat.le_of_ble_eq_true rfl) d_X7_isGap_10 ?_
  refine V.ifeqB g0 d_X7_isGap_13 (fun c_13 => ?_) (fun c_13 => ?_)
  · skip
    refine V.il3 g0 d_X7_isGap_30 ?_
    refine V.al0 g0 d_X7_isGap_31 ?_
    refine V.il1 g0 d_X7_isGap_32 ?_
    refine V.il2 g0 d_X7_isGap_33 ?_
    refine V.callVp g0 (c_X7_countryOf hs hk hp hr) ky_X7_countryOf ki_X7_countryOf ks2_X7_countryOf lk_X7_57 (by assumption) rfl rfl (Nat.le_of_ble_eq_true rfl) ⟨Nat.zero_le _, Nat.zero_le _⟩ rfl rfl (Nat.le_of_ble_eq_true rfl) d_X7_isGap_34 ?_
    refine V.icmpeq g0 d_X7_isGap_37 (by omega) (fun c_37 => ?_) (fun c_37 => ?_)
    · skip
      refine V.iconst g0 d_X7_isGap_44 ?_
      refine V.zret g d_X7_isGap_45 (by first | exact Or.inl rfl | exact Or.inr rfl | exact bI_01 _) (Nat.zero_le _) (Nat.zero_le _) ⟨congrArg (fun z => some (Value.int (iI z))) ?_, rfl, rfl⟩
      first | exact (bI_t ((isGap_e c_13).mpr c_19)).symm | exact (bI_f (fun h => (isGap_e c_13).mp h c_19)).symm | exact (bI_t ((isGap_x c_13).mpr c_37)).symm | exact (bI_f (fun h => (isGap_x c_13).mp h c_37)).symm
    · skip
      refine V.iconst g0 d_X7_isGap_40 ?_
      refine V.goto g0 d_X7_isGap_41 ?_
      refine V.zret g d_X7_isGap_45 (by first | exact Or.inl rfl | exact Or.inr rfl | exact bI_01 _) (Nat.zero_le _) (Nat.zero_le _) ⟨congrArg (fun z => some (Value.int (iI z))) ?_, rfl, rfl⟩
      first | exact (bI_t ((isGap_e c_13).mpr c_19)).symm | exact (bI_f (fun h => (isGap_e c_13).mp h c_19)).symm | exact (bI_t ((isGap_x c_13).mpr c_37)).symm | exact (bI_f (fun h => (isGap_x c_13).mp h c_37)).symm
  · skip
    refine V.il3 g0 d_X7_isGap_16 ?_
    refine V.bipush g0 d_X7_isGap_17 (by decide) ?_
    refine V.icmpeq g0 d_X7_isGap_19 (by omega) (fun c_19 => ?_) (fun c_19 => ?_)
    · skip
      refine V.iconst g0 d_X7_isGap_26 ?_
      refine V.goto g0 d_X7_isGap_27 ?_
      refine V.zret g d_X7_isGap_45 (by first | exact Or.inl rfl | exact Or.inr rfl | exact bI_01 _) (Nat.zero_le _) (Nat.zero_le _) ⟨congrArg (fun z => some (Value.int (iI z))) ?_, rfl, rfl⟩
      first | exact (bI_t ((isGap_e c_13).mpr c_19)).symm | exact (bI_f (fun h => (isGap_e c_13).mp h c_19)).symm | exact (bI_t ((isGap_x c_13).mpr c_37)).symm | exact (bI_f (fun h => (isGap_x c_13).mp h c_37)).symm
    · skip
      refine V.iconst g0 d_X7_isGap_22 ?_
      refine V.goto g0 d_X7_isGap_23 ?_
      refine V.zret g d_X7_isGap_45 (by first | exact Or.inl rfl | exact Or.inr rfl | exact bI_01 _) (Nat.zero_le _) (Nat.zero_le _) ⟨congrArg (fun z => some (Value.int (iI z))) ?_, rfl, rfl⟩
      first | exact (bI_t ((isGap_e c_13).mpr c_19)).symm | exact (bI_f (fun h => (isGap_e c_13).mp h c_19)).symm | exact (bI_t ((isGap_x c_13).mpr c_37)).symm | exact (bI_f (fun h => (isGap_x c_13).mp h c_37)).symm

theorem d_X7_gapsOf_0 : Dc cX7_gapsOf 0 1 1 (.iconst 0) := ⟨by decide +kernel, rfl⟩
theorem d_X7_gapsOf_1 : Dc cX7_gapsOf 1 1 2 (.istore_n 2) := ⟨by decide +kernel, rfl⟩
theorem d_X7_gapsOf_2 : Dc cX7_gapsOf 2 1 3 (.iconst 0) := ⟨by decide +kernel, rfl⟩
theorem d_X7_gapsOf_3 : Dc cX7_gapsOf 3 1 4 (.istore_n 3) := ⟨by decide +kernel, rfl⟩
theorem d_X7_gapsOf_4 : Dc cX7_gapsOf 4 1 5 (.iload_n 3) := ⟨by decide +kernel, rfl⟩
theorem d_X7_gapsOf_5 : Dc cX7_gapsOf 5 1 6 (.aload_n 0) := ⟨by decide +kernel, rfl⟩
theorem d_X7_gapsOf_6 : Dc cX7_gapsOf 6 1 7 (.iload_n 1) := ⟨by decide +kernel, rfl⟩
theorem d_X7_gapsOf_7 : Dc cX7_gapsOf 7 2 9 (.bipush 8) := ⟨by decide +kernel, rfl⟩
theorem d_X7_gapsOf_9 : Dc cX7_gapsOf 9 3 12 (.invokevirtual 50) := ⟨by decide +kernel, rfl⟩
theorem d_X7_gapsOf_12 : Dj cX7_gapsOf 12 15 38 (.if_icmp .ge) := ⟨26, by decide +kernel, rfl, by decide⟩
theorem d_X7_gapsOf_15 : Dc cX7_gapsOf 15 1 16 (.iload_n 2) := ⟨by decide +kernel, rfl⟩
theorem d_X7_gapsOf_16 : Dc cX7_gapsOf 16 1 17 (.aload_n 0) := ⟨by decide +kernel, rfl⟩
theorem d_X7_gapsOf_17 : Dc cX7_gapsOf 17 1 18 (.iload_n 1) := ⟨by decide +kernel, rfl⟩
theorem d_X7_gapsOf_18 : Dc cX7_gapsOf 18 1 19 (.iload_n 3) := ⟨by decide +kernel, rfl⟩
theorem d_X7_gapsOf_19 : Dc cX7_gapsOf 19 3 22 (.invokevirtual 63) := ⟨by decide +kernel, rfl⟩
theorem d_X7_gapsOf_22 : Dj cX7_gapsOf 22 25 29 (.ifCond .eq) := ⟨7, by decide +kernel, rfl, by decide⟩
theorem d_X7_gapsOf_25 : Dc cX7_gapsOf 25 1 26 (.iconst 1) := ⟨by decide +kernel, rfl⟩
theorem d_X7_gapsOf_26 : Dj cX7_gapsOf 26 29 30 .goto := ⟨4, by decide +kernel, rfl, by decide⟩
theorem d_X7_gapsOf_29 : Dc cX7_gapsOf 29 1 30 (.iconst 0) := ⟨by decide +kernel, rfl⟩
theorem d_X7_gapsOf_30 : Dc cX7_gapsOf 30 1 31 .iadd := ⟨by decide +kernel, rfl⟩
theorem d_X7_gapsOf_31 : Dc cX7_gapsOf 31 1 32 (.istore_n 2) := ⟨by decide +kernel, rfl⟩
theorem d_X7_gapsOf_32 : Dc cX7_gapsOf 32 3 35 (.iinc 3 1) := ⟨by decide +kernel, rfl⟩
theorem d_X7_gapsOf_35 : Dj cX7_gapsOf 35 38 4 .goto := ⟨(-31), by decide +kernel, rfl, by decide⟩
theorem d_X7_gapsOf_38 : Dc cX7_gapsOf 38 1 39 (.iload_n 2) := ⟨by decide +kernel, rfl⟩
theorem d_X7_gapsOf_39 : decode cX7_gapsOf 39 = .ok (.ireturn, 1) := by decide +kernel
set_option maxHeartbeats 4000000 in
set_option maxRecDepth 20000 in
theorem c_X7_gapsOf {E : Ev} {n : Nat} {M : Mem} {m : Nat} {s : Int → Int} (hs : MS E M m s) {p : Int} (hk : OkP s p) (hp : 0 ≤ p ∧ p < 6) : MT E yX7_gapsOf cX7_gapsOf 4 (some .int) 5 0 0 [.ref m, .int (iI p)] n M (PF (some (.int (iI (gapsOf s p)))) n M) := by
  refine MT.of (by decide) rfl (Nat.le_of_ble_eq_true rfl) ?_
  intro X g
  have g0 := g.1
  show V E X 0 0 n M 0 [some (.ref m), some (.int (iI p)), none, none] []
  obtain ⟨⟨fr, hm⟩, ha⟩ := id hs
  have hst := hk.stm
  refine V.iconst g0 d_X7_gapsOf_0 ?_
  refine V.is2 g0 d_X7_gapsOf_1 ?_
  refine V.iconst g0 d_X7_gapsOf_2 ?_
  refine V.is3 g0 d_X7_gapsOf_3 ?_
  have LP : ∀ (f i : Nat) (t : Int), (i : Int) + f = s (103 * p + 8) → t = sumI (fun r => bI (isGap s p r)) i → V E X 0 0 n M 4 [some (.ref m), some (.int (iI p)), some (.int (iI t)), some (.int (iI (i : Int)))] [] := by
    intro f
    induction f using Nat.strongRecOn with
    | _ f ih =>
    intro i t hf ht
    refine V.il3 g0 d_X7_gapsOf_4 ?_
    refine V.al0 g0 d_X7_gapsOf_5 ?_
    refine V.il1 g0 d_X7_gapsOf_6 ?_
    refine V.bipush g0 d_X7_gapsOf_7 (by decide) ?_
    refine V.callVp g0 (c_X7_get hs (by omega)) ky_X7_get ki_X7_get ks2_X7_get lk_X7_50 (by assumption) rfl rfl (Nat.le_of_ble_eq_true rfl) ⟨Nat.zero_le _, Nat.zero_le _⟩ rfl rfl (Nat.le_of_ble_eq_true rfl) d_X7_gapsOf_9 ?_
    refine V.icmpge g0 d_X7_gapsOf_12 (by omega) (fun c_12 => ?_) (fun c_12 => ?_)
    · skip
      refine V.il2 g0 d_X7_gapsOf_38 ?_
      refine V.iret g d_X7_gapsOf_39 (Nat.zero_le _) (Nat.zero_le _) ⟨congrArg (fun z => some (Value.int (iI z))) ?_, rfl, rfl⟩
      rw [ht, gapsOf]; congr 1; omega
    · skip
      refine V.il2 g0 d_X7_gapsOf_15 ?_
      refine V.al0 g0 d_X7_gapsOf_16 ?_
      refine V.il1 g0 d_X7_gapsOf_17 ?_
      refine V.il3 g0 d_X7_gapsOf_18 ?_
      refine V.callVp g0 (c_X7_isGap hs hk hp (by omega)) ky_X7_isGap ki_X7_isGap ks2_X7_isGap lk_X7_63 (by assumption) rfl rfl (Nat.le_of_ble_eq_true rfl) ⟨Nat.zero_le _, Nat.zero_le _⟩ rfl rfl (Nat.le_of_ble_eq_true rfl) d_X7_gapsOf_19 ?_
      refine V.ifeqB g0 d_X7_gapsOf_22 (fun c_22 => ?_) (fun c_22 => ?_)
      · skip
        refine V.iconst g0 d_X7_gapsOf_29 ?_
        refine V.iadd g0 d_X7_gapsOf_30 ?_
        refine V.is2 g0 d_X7_gapsOf_31 ?_
        refine V.inc3 g0 d_X7_gapsOf_32 ?_
        refine V.goto g0 d_X7_gapsOf_35 ?_
        exact ih (f - 1) (by omega) (i + 1) _ (by omega) (by rw [sumI_s, ht]; first | rw [bI_t c_22] | rw [bI_f c_22])
      · skip
        refine V.iconst g0 d_X7_gapsOf_25 ?_
        refine V.goto g0 d_X7_gapsOf_26 ?_
        refine V.iadd g0 d_X7_gapsOf_30 ?_
        refine V.is2 g0 d_X7_gapsOf_31 ?_
        refine V.inc3 g0 d_X7_gapsOf_32 ?_
        refine V.goto g0 d_X7_gapsOf_35 ?_
        exact ih (f - 1) (by omega) (i + 1) _ (by omega) (by rw [sumI_s, ht]; first | rw [bI_t c_22] | rw [bI_f c_22])
  exact LP (s (103 * p + 8)).toNat 0 0 (by omega) rfl

theorem d_X7_toldOn_0 : Dc cX7_toldOn 0 1 1 (.iconst 0) := ⟨by decide +kernel, rfl⟩
theorem d_X7_toldOn_1 : Dc cX7_toldOn 1 1 2 (.istore_n 3) := ⟨by decide +kernel, rfl⟩
theorem d_X7_toldOn_2 : Dc cX7_toldOn 2 1 3 (.iload_n 3) := ⟨by decide +kernel, rfl⟩
theorem d_X7_toldOn_3 : Dc cX7_toldOn 3 1 4 (.aload_n 0) := ⟨by decide +kernel, rfl⟩
theorem d_X7_toldOn_4 : Dc cX7_toldOn 4 1 5 (.iload_n 1) := ⟨by decide +kernel, rfl⟩
theorem d_X7_toldOn_5 : Dc cX7_toldOn 5 2 7 (.bipush 8) := ⟨by decide +kernel, rfl⟩
theorem d_X7_toldOn_7 : Dc cX7_toldOn 7 3 10 (.invokevirtual 50) := ⟨by decide +kernel, rfl⟩
theorem d_X7_toldOn_10 : Dj cX7_toldOn 10 13 29 (.if_icmp .ge) := ⟨19, by decide +kernel, rfl, by decide⟩
theorem d_X7_toldOn_13 : Dc cX7_toldOn 13 1 14 (.aload_n 0) := ⟨by decide +kernel, rfl⟩
theorem d_X7_toldOn_14 : Dc cX7_toldOn 14 1 15 (.iload_n 1) := ⟨by decide +kernel, rfl⟩
theorem d_X7_toldOn_15 : Dc cX7_toldOn 15 1 16 (.iload_n 3) := ⟨by decide +kernel, rfl⟩
theorem d_X7_toldOn_16 : Dc cX7_toldOn 16 3 19 (.invokevirtual 66) := ⟨by decide +kernel, rfl⟩
theorem d_X7_toldOn_19 : Dc cX7_toldOn 19 1 20 (.iload_n 2) := ⟨by decide +kernel, rfl⟩
theorem d_X7_toldOn_20 : Dj cX7_toldOn 20 23 29 (.if_icmp .gt) := ⟨9, by decide +kernel, rfl, by decide⟩
theorem d_X7_toldOn_23 : Dc cX7_toldOn 23 3 26 (.iinc 3 1) := ⟨by decide +kernel, rfl⟩
theorem d_X7_toldOn_26 : Dj cX7_toldOn 26 29 2 .goto := ⟨(-24), by decide +kernel, rfl, by decide⟩
theorem d_X7_toldOn_29 : Dc cX7_toldOn 29 1 30 (.iload_n 2) := ⟨by decide +kernel, rfl⟩
theorem d_X7_toldOn_30 : Dc cX7_toldOn 30 1 31 (.aload_n 0) := ⟨by decide +kernel, rfl⟩
theorem d_X7_toldOn_31 : Dc cX7_toldOn 31 1 32 (.iload_n 1) := ⟨by decide +kernel, rfl⟩
theorem d_X7_toldOn_32 : Dc cX7_toldOn 32 2 34 (.bipush 7) := ⟨by decide +kernel, rfl⟩
theorem d_X7_toldOn_34 : Dc cX7_toldOn 34 3 37 (.invokevirtual 50) := ⟨by decide +kernel, rfl⟩
theorem d_X7_toldOn_37 : Dj cX7_toldOn 37 40 45 (.if_icmp .ge) := ⟨8, by decide +kernel, rfl, by decide⟩
theorem d_X7_toldOn_40 : Dc cX7_toldOn 40 2 42 (.bipush (-5)) := ⟨by decide +kernel, rfl⟩
theorem d_X7_toldOn_42 : Dj cX7_toldOn 42 45 51 .goto := ⟨9, by decide +kernel, rfl, by decide⟩
theorem d_X7_toldOn_45 : Dc cX7_toldOn 45 1 46 (.aload_n 0) := ⟨by decide +kernel, rfl⟩
theorem d_X7_toldOn_46 : Dc cX7_toldOn 46 1 47 (.iload_n 1) := ⟨by decide +kernel, rfl⟩
theorem d_X7_toldOn_47 : Dc cX7_toldOn 47 1 48 (.iload_n 3) := ⟨by decide +kernel, rfl⟩
theorem d_X7_toldOn_48 : Dc cX7_toldOn 48 3 51 (.invokevirtual 60) := ⟨by decide +kernel, rfl⟩
theorem d_X7_toldOn_51 : decode cX7_toldOn 51 = .ok (.ireturn, 1) := by decide +kernel
set_option maxHeartbeats 4000000 in
set_option maxRecDepth 20000 in
theorem c_X7_toldOn {E : Ev} {n : Nat} {M : Mem} {m : Nat} {s : Int → Int} (hs : MS E M m s) {p : Int} (hk : OkP s p) (hp : 0 ≤ p ∧ p < 6) {day : Int} (hd : -2147483648 ≤ day ∧ day < 2147483648) : MT E yX7_toldOn cX7_toldOn 4 (some .int) 4 0 0 [.ref m, .int (iI p), .int (iI day)] n M (PF (some (.int (iI (trAt (bD s p) (bP s p) (s (103 * p + 8)) day)))) n M) := by
  refine MT.of (by decide) rfl (Nat.le_of_ble_eq_true rfl) ?_
  intro X g
  have g0 := g.1
  show V E X 0 0 n M 0 [some (.ref m), some (.int (iI p)), some (.int (iI day)), none] []
  obtain ⟨⟨fr, hm⟩, ha⟩ := id hs
  have hst := hk.stm
  have hbg := hk.bgo
  have hlb := lead_b (bD s p) day (s (103 * p + 8)).toNat 0
  have hD0 : bD s p 0 = s (103 * p + 7) := if_pos rfl
  refine V.iconst g0 d_X7_toldOn_0 ?_
  refine V.is3 g0 d_X7_toldOn_1 ?_
  have TL : V E X 0 0 n M 29 [some (.ref m), some (.int (iI p)), some (.int (iI day)), some (.int (iI (lead (bD s p) day (s (103 * p + 8)).toNat 0)))] [] := by
    skip
    refine V.il2 g0 d_X7_toldOn_29 ?_
    refine V.al0 g0 d_X7_toldOn_30 ?_
    refine V.il1 g0 d_X7_toldOn_31 ?_
    refine V.bipush g0 d_X7_toldOn_32 (by decide) ?_
    refine V.callVp g0 (c_X7_get hs (by omega)) ky_X7_get ki_X7_get ks2_X7_get lk_X7_50 (by assumption) rfl rfl (Nat.le_of_ble_eq_true rfl) ⟨Nat.zero_le _, Nat.zero_le _⟩ rfl rfl (Nat.le_of_ble_eq_true rfl) d_X7_toldOn_34 ?_
    refine V.icmpge g0 d_X7_toldOn_37 (by omega) (fun c_37 => ?_) (fun c_37 => ?_)
    · skip
      refine V.al0 g0 d_X7_toldOn_45 ?_
      refine V.il1 g0 d_X7_toldOn_46 ?_
      refine V.il3 g0 d_X7_toldOn_47 ?_
      refine V.callVp g0 (c_X7_toldBy hs hk hp (by omega)) ky_X7_toldBy ki_X7_toldBy ks2_X7_toldBy lk_X7_60 (by assumption) rfl rfl (Nat.le_of_ble_eq_true rfl) ⟨Nat.zero_le _, Nat.zero_le _⟩ rfl rfl (Nat.le_of_ble_eq_true rfl) d_X7_toldOn_48 ?_
      refine V.iret g d_X7_toldOn_51 (Nat.zero_le _) (Nat.zero_le _) ⟨congrArg (fun z => some (Value.int (iI z))) ?_, rfl, rfl⟩
      first | (rw [trAt, if_pos (by omega)]; done) | (rw [trAt, if_neg (by omega)]; done)
    · skip
      refine V.bipush g0 d_X7_toldOn_40 (by decide) ?_
      refine V.goto g0 d_X7_toldOn_42 ?_
      refine V.iret g d_X7_toldOn_51 (Nat.zero_le _) (Nat.zero_le _) ⟨congrArg (fun z => some (Value.int (iI z))) ?_, rfl, rfl⟩
      first | (rw [trAt, if_pos (by omega)]; done) | (rw [trAt, if_neg (by omega)]; done)
  have LP : ∀ (f : Nat) (i : Int), 0 ≤ i → i + f = s (103 * p + 8) → lead (bD s p) day (s (103 * p + 8)).toNat 0 = lead (bD s p) day f i → V E X 0 0 n M 2 [some (.ref m), some (.int (iI p)), some (.int (iI day)), some (.int (iI i))] [] := by
    intro f
    induction f using Nat.strongRecOn with
    | _ f ih =>
    intro i hi hf hl
    refine V.il3 g0 d_X7_toldOn_2 ?_
    refine V.al0 g0 d_X7_toldOn_3 ?_
    refine V.il1 g0 d_X7_toldOn_4 ?_
    refine V.bipush g0 d_X7_toldOn_5 (by decide) ?_
    refine V.callVp g0 (c_X7_get hs (by omega)) ky_X7_get ki_X7_get ks2_X7_get lk_X7_50 (by assumption) rfl rfl (Nat.le_of_ble_eq_true rfl) ⟨Nat.zero_le _, Nat.zero_le _⟩ rfl rfl (Nat.le_of_ble_eq_true rfl) d_X7_toldOn_7 ?_
    refine V.icmpge g0 d_X7_toldOn_10 (by omega) (fun c_10 => ?_) (fun c_10 => ?_)
    · skip
      rw [show f = 0 by omega, lead] at hl
      rw [hl] at TL
      exact TL
      skip
    · skip
      obtain ⟨f2, rfl⟩ : ∃ f2, f = f2 + 1 := ⟨f - 1, by omega⟩
      have hDi : bD s p (i + 1) = stD s p i := by rw [bD, if_neg (by omega), show i + 1 - 1 = i by omega]
      have hsd : 0 ≤ stD s p i ∧ stD s p i < 1000 := by have := hk.st hi (by omega : i < s (103 * p + 8)); unfold stD; omega
      refine V.al0 g0 d_X7_toldOn_13 ?_
      refine V.il1 g0 d_X7_toldOn_14 ?_
      refine V.il3 g0 d_X7_toldOn_15 ?_
      refine V.callVp g0 (c_X7_dayOf hs hk hp (by omega)) ky_X7_dayOf ki_X7_dayOf ks2_X7_dayOf lk_X7_66 (by assumption) rfl rfl (Nat.le_of_ble_eq_true rfl) ⟨Nat.zero_le _, Nat.zero_le _⟩ rfl rfl (Nat.le_of_ble_eq_true rfl) d_X7_toldOn_16 ?_
      refine V.il2 g0 d_X7_toldOn_19 ?_
      refine V.icmpgt g0 d_X7_toldOn_20 (by omega) (fun c_20 => ?_) (fun c_20 => ?_)
      · skip
        rw [lead, if_neg (by rw [hDi]; omega)] at hl
        rw [hl] at TL
        exact TL
        skip
      · skip
        refine V.inc3 g0 d_X7_toldOn_23 ?_
        refine V.goto g0 d_X7_toldOn_26 ?_
        exact ih f2 (by omega) (i + 1) (by omega) (by omega) (by rw [hl, lead, if_pos (by rw [hDi]; omega)])
  exact LP (s (103 * p + 8)).toNat 0 (by omega) (by omega) rfl
