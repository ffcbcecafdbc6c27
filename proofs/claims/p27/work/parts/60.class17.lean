theorem visN0 (s : Int → Int) (p : Int) : visN s p 0 = sumI (fun c => bI (hasV s p c)) 6 := sumI_c fun _ _ => if_pos rfl
theorem visN1 (s : Int → Int) (p : Int) : visN s p 1 = sumI (fun c => bI (validOn s p c (s 618))) 6 := sumI_c fun _ _ => if_neg (by decide)
theorem d_X6_passport_0 : Dc cX6_passport 0 1 1 (.aload_n 0) := ⟨by decide +kernel, rfl⟩
theorem d_X6_passport_1 : Dc cX6_passport 1 3 4 (.getfield 12) := ⟨by decide +kernel, rfl⟩
theorem d_X6_passport_4 : Dc cX6_passport 4 1 5 (.iload_n 1) := ⟨by decide +kernel, rfl⟩
theorem d_X6_passport_5 : Dc cX6_passport 5 3 8 (.invokevirtual 106) := ⟨by decide +kernel, rfl⟩
theorem d_X6_passport_8 : Dc cX6_passport 8 1 9 (.astore_n 3) := ⟨by decide +kernel, rfl⟩
theorem d_X6_passport_9 : Dc cX6_passport 9 1 10 (.aload_n 3) := ⟨by decide +kernel, rfl⟩
theorem d_X6_passport_10 : Dj cX6_passport 10 13 15 .ifnonnull := ⟨5, by decide +kernel, rfl, by decide⟩
theorem d_X6_passport_13 : Dc cX6_passport 13 1 14 (.iconst (-1)) := ⟨by decide +kernel, rfl⟩
theorem d_X6_passport_14 : decode cX6_passport 14 = .ok (.ireturn, 1) := by decide +kernel
theorem d_X6_passport_15 : Dc cX6_passport 15 1 16 (.iload_n 2) := ⟨by decide +kernel, rfl⟩
theorem d_X6_passport_16 : decode cX6_passport 16 = .ok (.tableswitch 103 0 8 #[52, 57, 62, 67, 75, 83, 88, 93, 98], 52) := by decide +kernel
theorem d_X6_passport_68 : Dc cX6_passport 68 1 69 (.aload_n 3) := ⟨by decide +kernel, rfl⟩
theorem d_X6_passport_69 : Dc cX6_passport 69 3 72 (.getfield 110) := ⟨by decide +kernel, rfl⟩
theorem d_X6_passport_72 : decode cX6_passport 72 = .ok (.ireturn, 1) := by decide +kernel
theorem d_X6_passport_73 : Dc cX6_passport 73 1 74 (.aload_n 3) := ⟨by decide +kernel, rfl⟩
theorem d_X6_passport_74 : Dc cX6_passport 74 3 77 (.invokevirtual 115) := ⟨by decide +kernel, rfl⟩
theorem d_X6_passport_77 : decode cX6_passport 77 = .ok (.ireturn, 1) := by decide +kernel
theorem d_X6_passport_78 : Dc cX6_passport 78 1 79 (.aload_n 3) := ⟨by decide +kernel, rfl⟩
theorem d_X6_passport_79 : Dc cX6_passport 79 3 82 (.invokevirtual 118) := ⟨by decide +kernel, rfl⟩
theorem d_X6_passport_82 : decode cX6_passport 82 = .ok (.ireturn, 1) := by decide +kernel
theorem d_X6_passport_83 : Dc cX6_passport 83 1 84 (.aload_n 3) := ⟨by decide +kernel, rfl⟩
theorem d_X6_passport_84 : Dc cX6_passport 84 3 87 (.getfield 121) := ⟨by decide +kernel, rfl⟩
theorem d_X6_passport_87 : Dc cX6_passport 87 3 90 (.invokevirtual 125) := ⟨by decide +kernel, rfl⟩
theorem d_X6_passport_90 : decode cX6_passport 90 = .ok (.ireturn, 1) := by decide +kernel
theorem d_X6_passport_91 : Dc cX6_passport 91 1 92 (.aload_n 3) := ⟨by decide +kernel, rfl⟩
theorem d_X6_passport_92 : Dc cX6_passport 92 3 95 (.getfield 121) := ⟨by decide +kernel, rfl⟩
theorem d_X6_passport_95 : Dc cX6_passport 95 3 98 (.invokevirtual 130) := ⟨by decide +kernel, rfl⟩
theorem d_X6_passport_98 : decode cX6_passport 98 = .ok (.ireturn, 1) := by decide +kernel
theorem d_X6_passport_99 : Dc cX6_passport 99 1 100 (.aload_n 3) := ⟨by decide +kernel, rfl⟩
theorem d_X6_passport_100 : Dc cX6_passport 100 3 103 (.invokevirtual 133) := ⟨by decide +kernel, rfl⟩
theorem d_X6_passport_103 : decode cX6_passport 103 = .ok (.ireturn, 1) := by decide +kernel
theorem d_X6_passport_104 : Dc cX6_passport 104 1 105 (.aload_n 3) := ⟨by decide +kernel, rfl⟩
theorem d_X6_passport_105 : Dc cX6_passport 105 3 108 (.getfield 136) := ⟨by decide +kernel, rfl⟩
theorem d_X6_passport_108 : decode cX6_passport 108 = .ok (.ireturn, 1) := by decide +kernel
theorem d_X6_passport_109 : Dc cX6_passport 109 1 110 (.aload_n 3) := ⟨by decide +kernel, rfl⟩
theorem d_X6_passport_110 : Dc cX6_passport 110 3 113 (.getfield 139) := ⟨by decide +kernel, rfl⟩
theorem d_X6_passport_113 : decode cX6_passport 113 = .ok (.ireturn, 1) := by decide +kernel
theorem d_X6_passport_114 : Dc cX6_passport 114 1 115 (.aload_n 3) := ⟨by decide +kernel, rfl⟩
theorem d_X6_passport_115 : Dc cX6_passport 115 3 118 (.invokevirtual 142) := ⟨by decide +kernel, rfl⟩
theorem d_X6_passport_118 : decode cX6_passport 118 = .ok (.ireturn, 1) := by decide +kernel
theorem d_X6_passport_119 : Dc cX6_passport 119 2 121 (.bipush (-2)) := ⟨by decide +kernel, rfl⟩
theorem d_X6_passport_121 : decode cX6_passport 121 = .ok (.ireturn, 1) := by decide +kernel
set_option maxHeartbeats 4000000 in
set_option maxRecDepth 20000 in
theorem c_X6_passport {E : Ev} {n : Nat} {M : Mem} {w o : Nat} {s : Int → Int} {fs : List Value} (h0 : M o = .inr (6, .ref (o + 1) :: fs)) (hN : SR E M w n (o + 1) s) {p w : Int} (h1 : rg p) (h2 : rg w) : MT E yX6_passport cX6_passport 4 (some .int) 5 0 0 [.ref o, .int (iI p), .int (iI w)] n M (PF (some (.int (iI (q_passport s p w)))) n (M)) := by
  refine MT.of (by decide) rfl (Nat.le_of_ble_eq_true rfl) ?_
  intro X g
  have g0 := g.1
  show V E X 0 0 n M 0 [some (.ref o), some (.int (iI p)), some (.int (iI w)), none] []
  obtain ⟨C, hS, hR, hv, hO⟩ := id hN
  have hR2 := hR
  obtain ⟨⟨ed, ei, ef⟩, hRow, hH⟩ := hR2
  have hm := hO.many
  have hdy := hO.day
  have a0 := hS.h0
  have a1 := hS.h1
  refine V.al0 g0 d_X6_passport_0 ?_
  refine V.getf g0 d_X6_passport_1 fl_X6_12 (by assumption) (by rfl) ?_
  refine V.il1 g0 d_X6_passport_4 ?_
  refine V.callVp g0 (c_X2_holderOf hS hm h1) ky_X2_holderOf ki_X2_holderOf ks2_X2_holderOf lk_X6_106 (by assumption) rfl rfl (Nat.le_of_ble_eq_true rfl) ⟨Nat.zero_le _, Nat.zero_le _⟩ rfl rfl (Nat.le_of_ble_eq_true rfl) d_X6_passport_5 ?_
  rcases holQ_c (o + 1) (s 619) p with ⟨hp, he⟩ | ⟨i, hi, hp, he⟩
  · skip
    rw [he, show va_rf none = Value.null from rfl]
    refine V.asN3 g0 d_X6_passport_8 ?_
    refine V.alN3 g0 d_X6_passport_9 ?_
    refine V.ifnonnullN g0 d_X6_passport_10 ?_
    refine V.iconst g0 d_X6_passport_13 ?_
    refine V.iret g d_X6_passport_14 (Nat.zero_le _) (Nat.zero_le _) ⟨congrArg (fun z => some (Value.int (iI z))) ?_, rfl, rfl⟩
    exact (if_pos hp).symm
  · skip
    subst hp
    rw [he, show va_rf (some (hbs (o + 1) i)) = Value.ref (hbs (o + 1) i) from rfl]
    have hho := hS.ho (i := i) (by omega)
    have hrow := hRow i (by omega)
    obtain ⟨hHR, hVR⟩ := hH i (by omega)
    have hk := hO.at (p := (i : Int)) (by omega) (by omega)
    have g0a := hho.h0
    have g1a := hho.h1
    have g4a := hho.h4
    have g5a := hho.h5
    have hjO := HolR.jOk hHR hk
    have hbO := HolR.bOk hHR hk
    have e8 : hcb (C i) = s (103 * (i : Int) + 8) := hHR.1.2.2.2.2
    have e8b : (C i).2.2.2.2.2.2.2.2.1 = s (103 * (i : Int) + 8) := hHR.1.2.2.2.2
    have hb8 := hk.stm
    refine V.as3 g0 d_X6_passport_8 ?_
    refine V.al3 g0 d_X6_passport_9 ?_
    refine V.ifnonnull g0 d_X6_passport_10 ?_
    refine V.il2 g0 d_X6_passport_15 ?_
    rcases (show (w < 0 ∨ 8 < w) ∨ w = 0 ∨ w = 1 ∨ w = 2 ∨ w = 3 ∨ w = 4 ∨ w = 5 ∨ w = 6 ∨ w = 7 ∨ w = 8 by omega) with w_16 | w_16 | w_16 | w_16 | w_16 | w_16 | w_16 | w_16 | w_16 | w_16
    · refine V.tout (q := 0) (t := 119) g0 d_X6_passport_16 (by omega) w_16 (by decide) ?_
      refine V.bipush g0 d_X6_passport_119 (by decide) ?_
      refine V.iret g d_X6_passport_121 (Nat.zero_le _) (Nat.zero_le _) ⟨congrArg (fun z => some (Value.int (iI z))) ?_, rfl, rfl⟩
      have hq : q_passport s (i : Int) w = passF s (i : Int) w := if_neg (fun q => q ⟨by omega, by omega⟩)
      rw [hq, passF, if_neg (by omega), if_neg (by omega), if_neg (by omega), if_neg (by omega), if_neg (by omega), if_neg (by omega), if_neg (by omega), if_neg (by omega), if_neg (by omega)]
    · refine V.tin (q := 0) (off := 52) (t := 68) g0 d_X6_passport_16 (by omega) (by omega) (by omega) (by rw [w_16]; rfl) (by decide) ?_
      refine V.al3 g0 d_X6_passport_68 ?_
      refine V.getf g0 d_X6_passport_69 fl_X6_110 (by assumption) (by rfl) ?_
      refine V.iret g d_X6_passport_72 (Nat.zero_le _) (Nat.zero_le _) ⟨congrArg (fun z => some (Value.int (iI z))) ?_, rfl, rfl⟩
      have hq : q_passport s (i : Int) w = passF s (i : Int) w := if_neg (fun q => q ⟨by omega, by omega⟩)
      rw [hq, passF, if_pos (by omega)]
      exact hHR.1.1
    · refine V.tin (q := 0) (off := 57) (t := 73) g0 d_X6_passport_16 (by omega) (by omega) (by omega) (by rw [w_16]; rfl) (by decide) ?_
      refine V.al3 g0 d_X6_passport_73 ?_
      refine V.callVp g0 (c_X1_placeS hho hHR hk) ky_X1_place ki_X1_place ks2_X1_place lk_X6_115 (by assumption) rfl rfl (Nat.le_of_ble_eq_true rfl) ⟨Nat.zero_le _, Nat.zero_le _⟩ rfl rfl (Nat.le_of_ble_eq_true rfl) d_X6_passport_74 ?_
      refine V.iret g d_X6_passport_77 (Nat.zero_le _) (Nat.zero_le _) ⟨congrArg (fun z => some (Value.int (iI z))) ?_, rfl, rfl⟩
      have hq : q_passport s (i : Int) w = passF s (i : Int) w := if_neg (fun q => q ⟨by omega, by omega⟩)
      rw [hq, passF, if_neg (by omega), if_pos (by omega)]
    · refine V.tin (q := 0) (off := 62) (t := 78) g0 d_X6_passport_16 (by omega) (by omega) (by omega) (by rw [w_16]; rfl) (by decide) ?_
      refine V.al3 g0 d_X6_passport_78 ?_
      refine V.callVp g0 (c_X1_toldPlace hho hHR hk) ky_X1_toldPlace ki_X1_toldPlace ks2_X1_toldPlace lk_X6_118 (by assumption) rfl rfl (Nat.le_of_ble_eq_true rfl) ⟨Nat.zero_le _, Nat.zero_le _⟩ rfl rfl (Nat.le_of_ble_eq_true rfl) d_X6_passport_79 ?_
      refine V.iret g d_X6_passport_82 (Nat.zero_le _) (Nat.zero_le _) ⟨congrArg (fun z => some (Value.int (iI z))) ?_, rfl, rfl⟩
      have hq : q_passport s (i : Int) w = passF s (i : Int) w := if_neg (fun q => q ⟨by omega, by omega⟩)
      rw [hq, passF, if_neg (by omega), if_neg (by omega), if_pos (by omega)]
    · refine V.tin (q := 0) (off := 67) (t := 83) g0 d_X6_passport_16 (by omega) (by omega) (by omega) (by rw [w_16]; rfl) (by decide) ?_
      refine V.al3 g0 d_X6_passport_83 ?_
      refine V.getf g0 d_X6_passport_84 fl_X6_121 (by assumption) (by rfl) ?_
      refine V.callVp g0 (c_X0_stamps hho.bo hbO) ky_X0_stamps ki_X0_stamps ks2_X0_stamps lk_X6_125 (by assumption) rfl rfl (Nat.le_of_ble_eq_true rfl) ⟨Nat.zero_le _, Nat.zero_le _⟩ rfl rfl (Nat.le_of_ble_eq_true rfl) d_X6_passport_87 ?_
      refine V.iret g d_X6_passport_90 (Nat.zero_le _) (Nat.zero_le _) ⟨congrArg (fun z => some (Value.int (iI z))) ?_, rfl, rfl⟩
      have hq : q_passport s (i : Int) w = passF s (i : Int) w := if_neg (fun q => q ⟨by omega, by omega⟩)
      rw [hq, passF, if_neg (by omega), if_neg (by omega), if_neg (by omega), if_pos (by omega)]
      exact e8
    · refine V.tin (q := 0) (off := 75) (t := 91) g0 d_X6_passport_16 (by omega) (by omega) (by omega) (by rw [w_16]; rfl) (by decide) ?_
      refine V.al3 g0 d_X6_passport_91 ?_
      refine V.getf g0 d_X6_passport_92 fl_X6_121 (by assumption) (by rfl) ?_
      refine V.callVp g0 (c_X0_gaps hho.bo hbO) ky_X0_gaps ki_X0_gaps ks2_X0_gaps lk_X6_130 (by assumption) rfl rfl (Nat.le_of_ble_eq_true rfl) ⟨Nat.zero_le _, Nat.zero_le _⟩ rfl rfl (Nat.le_of_ble_eq_true rfl) d_X6_passport_95 ?_
      refine V.iret g d_X6_passport_98 (Nat.zero_le _) (Nat.zero_le _) ⟨congrArg (fun z => some (Value.int (iI z))) ?_, rfl, rfl⟩
      have hq : q_passport s (i : Int) w = passF s (i : Int) w := if_neg (fun q => q ⟨by omega, by omega⟩)
      rw [hq, passF, if_neg (by omega), if_neg (by omega), if_neg (by omega), if_neg (by omega), if_pos (by omega)]
      exact gaps_eq hHR hk
    · refine V.tin (q := 0) (off := 83) (t := 99) g0 d_X6_passport_16 (by omega) (by omega) (by omega) (by rw [w_16]; rfl) (by decide) ?_
      refine V.al3 g0 d_X6_passport_99 ?_
      refine V.callVp g0 (c_X1_crossings hho hHR hk) ky_X1_crossings ki_X1_crossings ks2_X1_crossings lk_X6_133 (by assumption) rfl rfl (Nat.le_of_ble_eq_true rfl) ⟨Nat.zero_le _, Nat.zero_le _⟩ rfl rfl (Nat.le_of_ble_eq_true rfl) d_X6_passport_100 ?_
      refine V.iret g d_X6_passport_103 (Nat.zero_le _) (Nat.zero_le _) ⟨congrArg (fun z => some (Value.int (iI z))) ?_, rfl, rfl⟩
      have hq : q_passport s (i : Int) w = passF s (i : Int) w := if_neg (fun q => q ⟨by omega, by omega⟩)
      rw [hq, passF, if_neg (by omega), if_neg (by omega), if_neg (by omega), if_neg (by omega), if_neg (by omega), if_pos (by omega)]
    · refine V.tin (q := 0) (off := 88) (t := 104) g0 d_X6_passport_16 (by omega) (by omega) (by omega) (by rw [w_16]; rfl) (by decide) ?_
      refine V.al3 g0 d_X6_passport_104 ?_
      refine V.getf g0 d_X6_passport_105 fl_X6_136 (by assumption) (by rfl) ?_
      refine V.iret g d_X6_passport_108 (Nat.zero_le _) (Nat.zero_le _) ⟨congrArg (fun z => some (Value.int (iI z))) ?_, rfl, rfl⟩
      have hq : q_passport s (i : Int) w = passF s (i : Int) w := if_neg (fun q => q ⟨by omega, by omega⟩)
      rw [hq, passF, if_neg (by omega), if_neg (by omega), if_neg (by omega), if_neg (by omega), if_neg (by omega), if_neg (by omega), if_pos (by omega)]
      exact hHR.1.2.1
    · refine V.tin (q := 0) (off := 93) (t := 109) g0 d_X6_passport_16 (by omega) (by omega) (by omega) (by rw [w_16]; rfl) (by decide) ?_
      refine V.al3 g0 d_X6_passport_109 ?_
      refine V.getf g0 d_X6_passport_110 fl_X6_139 (by assumption) (by rfl) ?_
      refine V.iret g d_X6_passport_113 (Nat.zero_le _) (Nat.zero_le _) ⟨congrArg (fun z => some (Value.int (iI z))) ?_, rfl, rfl⟩
      have hq : q_passport s (i : Int) w = passF s (i : Int) w := if_neg (fun q => q ⟨by omega, by omega⟩)
      rw [hq, passF, if_neg (by omega), if_neg (by omega), if_neg (by omega), if_neg (by omega), if_neg (by omega), if_neg (by omega), if_neg (by omega), if_pos (by omega)]
      exact hHR.1.2.2.1
    · refine V.tin (q := 0) (off := 98) (t := 114) g0 d_X6_passport_16 (by omega) (by omega) (by omega) (by rw [w_16]; rfl) (by decide) ?_
      refine V.al3 g0 d_X6_passport_114 ?_
      refine V.callVp g0 (c_X1_visasHeld hho hHR hk hVR) ky_X1_visasHeld ki_X1_visasHeld ks2_X1_visasHeld lk_X6_142 (by assumption) rfl rfl (Nat.le_of_ble_eq_true rfl) ⟨Nat.zero_le _, Nat.zero_le _⟩ rfl rfl (Nat.le_of_ble_eq_true rfl) d_X6_passport_115 ?_
      refine V.iret g d_X6_passport_118 (Nat.zero_le _) (Nat.zero_le _) ⟨congrArg (fun z => some (Value.int (iI z))) ?_, rfl, rfl⟩
      have hq : q_passport s (i : Int) w = passF s (i : Int) w := if_neg (fun q => q ⟨by omega, by omega⟩)
      rw [hq, passF, if_neg (by omega), if_neg (by omega), if_neg (by omega), if_neg (by omega), if_neg (by omega), if_neg (by omega), if_neg (by omega), if_neg (by omega), if_pos (by omega)]
      exact (visN0 s i).symm

theorem d_X6_stamp_0 : Dc cX6_stamp 0 1 1 (.aload_n 0) := ⟨by decide +kernel, rfl⟩
theorem d_X6_stamp_1 : Dc cX6_stamp 1 3 4 (.getfield 12) := ⟨by decide +kernel, rfl⟩
theorem d_X6_stamp_4 : Dc cX6_stamp 4 1 5 (.iload_n 1) := ⟨by decide +kernel, rfl⟩
theorem d_X6_stamp_5 : Dc cX6_stamp 5 3 8 (.invokevirtual 106) := ⟨by decide +kernel, rfl⟩
theorem d_X6_stamp_8 : Dc cX6_stamp 8 2 10 (.astore 4) := ⟨by decide +kernel, rfl⟩
theorem d_X6_stamp_10 : Dc cX6_stamp 10 2 12 (.aload 4) := ⟨by decide +kernel, rfl⟩
theorem d_X6_stamp_12 : Dj cX6_stamp 12 15 27 .ifnull := ⟨15, by decide +kernel, rfl, by decide⟩
theorem d_X6_stamp_15 : Dc cX6_stamp 15 2 17 (.aload 4) := ⟨by decide +kernel, rfl⟩
theorem d_X6_stamp_17 : Dc cX6_stamp 17 3 20 (.getfield 121) := ⟨by decide +kernel, rfl⟩
theorem d_X6_stamp_20 : Dc cX6_stamp 20 1 21 (.iload_n 2) := ⟨by decide +kernel, rfl⟩
theorem d_X6_stamp_21 : Dc cX6_stamp 21 3 24 (.invokevirtual 145) := ⟨by decide +kernel, rfl⟩
theorem d_X6_stamp_24 : Dj cX6_stamp 24 27 29 (.ifCond .ne) := ⟨5, by decide +kernel, rfl, by decide⟩
theorem d_X6_stamp_27 : Dc cX6_stamp 27 1 28 (.iconst (-1)) := ⟨by decide +kernel, rfl⟩
theorem d_X6_stamp_28 : decode cX6_stamp 28 = .ok (.ireturn, 1) := by decide +kernel
theorem d_X6_stamp_29 : Dc cX6_stamp 29 2 31 (.aload 4) := ⟨by decide +kernel, rfl⟩
theorem d_X6_stamp_31 : Dc cX6_stamp 31 3 34 (.getfield 121) := ⟨by decide +kernel, rfl⟩
theorem d_X6_stamp_34 : Dc cX6_stamp 34 2 36 (.astore 5) := ⟨by decide +kernel, rfl⟩
theorem d_X6_stamp_36 : Dc cX6_stamp 36 1 37 (.iload_n 3) := ⟨by decide +kernel, rfl⟩
theorem d_X6_stamp_37 : decode cX6_stamp 37 = .ok (.tableswitch 83 0 4 #[35, 42, 49, 64, 79], 35) := by decide +kernel
theorem d_X6_stamp_72 : Dc cX6_stamp 72 2 74 (.aload 5) := ⟨by decide +kernel, rfl⟩
theorem d_X6_stamp_74 : Dc cX6_stamp 74 1 75 (.iload_n 2) := ⟨by decide +kernel, rfl⟩
theorem d_X6_stamp_75 : Dc cX6_stamp 75 3 78 (.invokevirtual 149) := ⟨by decide +kernel, rfl⟩
theorem d_X6_stamp_78 : decode cX6_stamp 78 = .ok (.ireturn, 1) := by decide +kernel
theorem d_X6_stamp_79 : Dc cX6_stamp 79 2 81 (.aload 5) := ⟨by decide +kernel, rfl⟩
theorem d_X6_stamp_81 : Dc cX6_stamp 81 1 82 (.iload_n 2) := ⟨by decide +kernel, rfl⟩
theorem d_X6_stamp_82 : Dc cX6_stamp 82 3 85 (.invokevirtual 152) := ⟨by decide +kernel, rfl⟩
theorem d_X6_stamp_85 : decode cX6_stamp 85 = .ok (.ireturn, 1) := by decide +kernel
theorem d_X6_stamp_86 : Dc cX6_stamp 86 2 88 (.aload 5) := ⟨by decide +kernel, rfl⟩
theorem d_X6_stamp_88 : Dc cX6_stamp 88 1 89 (.iload_n 2) := ⟨by decide +kernel, rfl⟩
theorem d_X6_stamp_89 : Dc cX6_stamp 89 3 92 (.invokevirtual 155) := ⟨by decide +kernel, rfl⟩
theorem d_X6_stamp_92 : Dj cX6_stamp 92 95 99 (.ifCond .eq) := ⟨7, by decide +kernel, rfl, by decide⟩
theorem d_X6_stamp_95 : Dc cX6_stamp 95 1 96 (.iconst 1) := ⟨by decide +kernel, rfl⟩
theorem d_X6_stamp_96 : Dj cX6_stamp 96 99 100 .goto := ⟨4, by decide +kernel, rfl, by decide⟩
theorem d_X6_stamp_99 : Dc cX6_stamp 99 1 100 (.iconst 0) := ⟨by decide +kernel, rfl⟩
theorem d_X6_stamp_100 : decode cX6_stamp 100 = .ok (.ireturn, 1) := by decide +kernel
theorem d_X6_stamp_101 : Dc cX6_stamp 101 2 103 (.aload 5) := ⟨by decide +kernel, rfl⟩
theorem d_X6_stamp_103 : Dc cX6_stamp 103 1 104 (.iload_n 2) := ⟨by decide +kernel, rfl⟩
theorem d_X6_stamp_104 : Dc cX6_stamp 104 3 107 (.invokevirtual 158) := ⟨by decide +kernel, rfl⟩
theorem d_X6_stamp_107 : Dj cX6_stamp 107 110 114 (.ifCond .eq) := ⟨7, by decide +kernel, rfl, by decide⟩
theorem d_X6_stamp_110 : Dc cX6_stamp 110 1 111 (.iconst 1) := ⟨by decide +kernel, rfl⟩
theorem d_X6_stamp_111 : Dj cX6_stamp 111 114 115 .goto := ⟨4, by decide +kernel, rfl, by decide⟩
theorem d_X6_stamp_114 : Dc cX6_stamp 114 1 115 (.iconst 0) := ⟨by decide +kernel, rfl⟩
theorem d_X6_stamp_115 : decode cX6_stamp 115 = .ok (.ireturn, 1) := by decide +kernel
theorem d_X6_stamp_116 : Dc cX6_stamp 116 1 117 (.iload_n 2) := ⟨by decide +kernel, rfl⟩
theorem d_X6_stamp_117 : Dc cX6_stamp 117 1 118 (.iconst 4) := ⟨by decide +kernel, rfl⟩
theorem d_X6_stamp_118 : Dc cX6_stamp 118 1 119 .idiv := ⟨by decide +kernel, rfl⟩
theorem d_X6_stamp_119 : decode cX6_stamp 119 = .ok (.ireturn, 1) := by decide +kernel
theorem d_X6_stamp_120 : Dc cX6_stamp 120 2 122 (.bipush (-2)) := ⟨by decide +kernel, rfl⟩
theorem d_X6_stamp_122 : decode cX6_stamp 122 = .ok (.ireturn, 1) := by decide +kernel
set_option maxHeartbeats 4000000 in
set_option maxRecDepth 20000 in
theorem c_X6_stamp {E : Ev} {n : Nat} {M : Mem} {w o : Nat} {s : Int → Int} {fs : List Value} (h0 : M o = .inr (6, .ref (o + 1) :: fs)) (hN : SR E M w n (o + 1) s) {p r w : Int} (h1 : rg p) (h2 : rg r) (h3 : rg w) : MT E yX6_stamp cX6_stamp 6 (some .int) 4 0 0 [.ref o, .int (iI p), .int (iI r), .int (iI w)] n M (PF (some (.int (iI (q_stamp s p r w)))) n (M)) := by
  refine MT.of (by decide) rfl (Nat.le_of_ble_eq_true rfl) ?_
  intro X g
  have g0 := g.1
  show V E X 0 0 n M 0 [some (.ref o), some (.int (iI p)), some (.int (iI r)), some (.int (iI w)), none, none] []
  obtain ⟨C, hS, hR, hv, hO⟩ := id hN
  have hR2 := hR
  obtain ⟨⟨ed, ei, ef⟩, hRow, hH⟩ := hR2
  have hm := hO.many
  have hdy := hO.day
  have a0 := hS.h0
  have a1 := hS.h1
  refine V.al0 g0 d_X6_stamp_0 ?_
  refine V.getf g0 d_X6_stamp_1 fl_X6_12 (by assumption) (by rfl) ?_
  refine V.il1 g0 d_X6_stamp_4 ?_
  refine V.callVp g0 (c_X2_holderOf hS hm h1) ky_X2_holderOf ki_X2_holderOf ks2_X2_holderOf lk_X6_106 (by assumption) rfl rfl (Nat.le_of_ble_eq_true rfl) ⟨Nat.zero_le _, Nat.zero_le _⟩ rfl rfl (Nat.le_of_ble_eq_true rfl) d_X6_stamp_5 ?_
  rcases holQ_c (o + 1) (s 619) p with ⟨hp, he⟩ | ⟨i, hi, hp, he⟩
  · skip
    rw [he, show va_rf none = Value.null from rfl]
    refine V.asN4 g0 d_X6_stamp_8 ?_
    refine V.alN4 g0 d_X6_stamp_10 ?_
    refine V.ifnullN g0 d_X6_stamp_12 ?_
    refine V.iconst g0 d_X6_stamp_27 ?_
    refine V.iret g d_X6_stamp_28 (Nat.zero_le _) (Nat.zero_le _) ⟨congrArg (fun z => some (Value.int (iI z))) ?_, rfl, rfl⟩
    exact (if_pos (fun q => hp q.1)).symm
  · skip
    subst hp
    rw [he, show va_rf (some (hbs (o + 1) i)) = Value.ref (hbs (o + 1) i) from rfl]
    have hho := hS.ho (i := i) (by omega)
    have hrow := hRow i (by omega)
    obtain ⟨hHR, hVR⟩ := hH i (by omega)
    have hk := hO.at (p := (i : Int)) (by omega) (by omega)
    have g0a := hho.h0
    have g1a := hho.h1
    have g4a := hho.h4
    have g5a := hho.h5
    have hjO := HolR.jOk hHR hk
    have hbO := HolR.bOk hHR hk
    have e8 : hcb (C i) = s (103 * (i : Int) + 8) := hHR.1.2.2.2.2
    have e8b : (C i).2.2.2.2.2.2.2.2.1 = s (103 * (i : Int) + 8) := hHR.1.2.2.2.2
    have hb8 := hk.stm
    refine V.as4 g0 d_X6_stamp_8 ?_
    refine V.al4 g0 d_X6_stamp_10 ?_
    refine V.ifnull g0 d_X6_stamp_12 ?_
    refine V.al4 g0 d_X6_stamp_15 ?_
    refine V.getf g0 d_X6_stamp_17 fl_X6_121 (by assumption) (by rfl) ?_
    refine V.il2 g0 d_X6_stamp_20 ?_
    refine V.callVp g0 (c_X0_hasStamp hho.bo hbO h2) ky_X0_hasStamp ki_X0_hasStamp ks2_X0_hasStamp lk_X6_145 (by assumption) rfl rfl (Nat.le_of_ble_eq_true rfl) ⟨Nat.zero_le _, Nat.zero_le _⟩ rfl rfl (Nat.le_of_ble_eq_true rfl) d_X6_stamp_21 ?_
    refine V.ifneB g0 d_X6_stamp_24 (fun c_24 => ?_) (fun c_24 => ?_)
    · skip
      refine V.al4 g0 d_X6_stamp_29 ?_
      refine V.getf g0 d_X6_stamp_31 fl_X6_121 (by assumption) (by rfl) ?_
      refine V.as5 g0 d_X6_stamp_34 ?_
      refine V.il3 g0 d_X6_stamp_36 ?_
      rcases (show (w < 0 ∨ 4 < w) ∨ w = 0 ∨ w = 1 ∨ w = 2 ∨ w = 3 ∨ w = 4 by omega) with w_37 | w_37 | w_37 | w_37 | w_37 | w_37
      · refine V.tout (q := 0) (t := 120) g0 d_X6_stamp_37 (by omega) w_37 (by decide) ?_
        refine V.bipush g0 d_X6_stamp_120 (by decide) ?_
        refine V.iret g d_X6_stamp_122 (Nat.zero_le _) (Nat.zero_le _) ⟨congrArg (fun z => some (Value.int (iI z))) ?_, rfl, rfl⟩
        have hq : q_stamp s (i : Int) r w = stampF s (i : Int) r w := if_neg (fun q => q ⟨by omega, by omega⟩)
        rw [hq, stampF, if_neg (by omega), if_neg (by omega), if_neg (by omega), if_neg (by omega), if_neg (by omega)]
      · refine V.tin (q := 0) (off := 35) (t := 72) g0 d_X6_stamp_37 (by omega) (by omega) (by omega) (by rw [w_37]; rfl) (by decide) ?_
        refine V.al5 g0 d_X6_stamp_72 ?_
        refine V.il2 g0 d_X6_stamp_74 ?_
        refine V.callVp g0 (c_X0_dayOf hho.bo hbO (by omega)) ky_X0_dayOf ki_X0_dayOf ks2_X0_dayOf lk_X6_149 (by assumption) rfl rfl (Nat.le_of_ble_eq_true rfl) ⟨Nat.zero_le _, Nat.zero_le _⟩ rfl rfl (Nat.le_of_ble_eq_true rfl) d_X6_stamp_75 ?_
        refine V.iret g d_X6_stamp_78 (Nat.zero_le _) (Nat.zero_le _) ⟨congrArg (fun z => some (Value.int (iI z))) ?_, rfl, rfl⟩
        have hq : q_stamp s (i : Int) r w = stampF s (i : Int) r w := if_neg (fun q => q ⟨by omega, by omega⟩)
        rw [hq, stampF, if_pos (by omega)]
        rw [aft_in (by omega), (hHR.2.2.1 (r + 1) (by omega) (by omega)).1, bD_s (by omega)]
      · refine V.tin (q := 0) (off := 42) (t := 79) g0 d_X6_stamp_37 (by omega) (by omega) (by omega) (by rw [w_37]; rfl) (by decide) ?_
        refine V.al5 g0 d_X6_stamp_79 ?_
        refine V.il2 g0 d_X6_stamp_81 ?_
        refine V.callVp g0 (c_X0_countryOf hho.bo hbO h2) ky_X0_countryOf ki_X0_countryOf ks2_X0_countryOf lk_X6_152 (by assumption) rfl rfl (Nat.le_of_ble_eq_true rfl) ⟨Nat.zero_le _, Nat.zero_le _⟩ rfl rfl (Nat.le_of_ble_eq_true rfl) d_X6_stamp_82 ?_
        refine V.iret g d_X6_stamp_85 (Nat.zero_le _) (Nat.zero_le _) ⟨congrArg (fun z => some (Value.int (iI z))) ?_, rfl, rfl⟩
        have hq : q_stamp s (i : Int) r w = stampF s (i : Int) r w := if_neg (fun q => q ⟨by omega, by omega⟩)
        rw [hq, stampF, if_neg (by omega), if_pos (by omega)]
        exact (if_pos (by omega)).trans (hHR.2.2.2 r (by omega) (by omega))
      · refine V.tin (q := 0) (off := 49) (t := 86) g0 d_X6_stamp_37 (by omega) (by omega) (by omega) (by rw [w_37]; rfl) (by decide) ?_
        refine V.al5 g0 d_X6_stamp_86 ?_
        refine V.il2 g0 d_X6_stamp_88 ?_
        refine V.callVp g0 (c_X0_isEntry hho.bo hbO (by omega)) ky_X0_isEntry ki_X0_isEntry ks2_X0_isEntry lk_X6_155 (by assumption) rfl rfl (Nat.le_of_ble_eq_true rfl) ⟨Nat.zero_le _, Nat.zero_le _⟩ rfl rfl (Nat.le_of_ble_eq_true rfl) d_X6_stamp_89 ?_
        refine V.ifeqB g0 d_X6_stamp_92 (fun c_92 => ?_) (fun c_92 => ?_)
        · skip
          refine V.iconst g0 d_X6_stamp_99 ?_
          refine V.iret g d_X6_stamp_100 (Nat.zero_le _) (Nat.zero_le _) ⟨congrArg (fun z => some (Value.int (iI z))) ?_, rfl, rfl⟩
          have hq : q_stamp s (i : Int) r w = stampF s (i : Int) r w := if_neg (fun q => q ⟨by omega, by omega⟩)
          rw [hq, stampF, if_neg (by omega), if_neg (by omega), if_pos (by omega)]
          exact (bI_f (fun z => c_92 ((ent_iff hHR (by omega)).mpr z))).symm
        · skip
          refine V.iconst g0 d_X6_stamp_95 ?_
          refine V.goto g0 d_X6_stamp_96 ?_
          refine V.iret g d_X6_stamp_100 (Nat.zero_le _) (Nat.zero_le _) ⟨congrArg (fun z => some (Value.int (iI z))) ?_, rfl, rfl⟩
          have hq : q_stamp s (i : Int) r w = stampF s (i : Int) r w := if_neg (fun q => q ⟨by omega, by omega⟩)
          rw [hq, stampF, if_neg (by omega), if_neg (by omega), if_pos (by omega)]
          exact (bI_t ((ent_iff hHR (by omega)).mp c_92)).symm
      · refine V.tin (q := 0) (off := 64) (t := 101) g0 d_X6_stamp_37 (by omega) (by omega) (by omega) (by rw [w_37]; rfl) (by decide) ?_
        refine V.al5 g0 d_X6_stamp_101 ?_
        refine V.il2 g0 d_X6_stamp_103 ?_
        refine V.callVp g0 (c_X0_isGap hho.bo hbO (by omega)) ky_X0_isGap ki_X0_isGap ks2_X0_isGap lk_X6_158 (by assumption) rfl rfl (Nat.le_of_ble_eq_true rfl) ⟨Nat.zero_le _, Nat.zero_le _⟩ rfl rfl (Nat.le_of_ble_eq_true rfl) d_X6_stamp_104 ?_
        refine V.ifeqB g0 d_X6_stamp_107 (fun c_107 => ?_) (fun c_107 => ?_)
        · skip
          refine V.iconst g0 d_X6_stamp_114 ?_
          refine V.iret g d_X6_stamp_115 (Nat.zero_le _) (Nat.zero_le _) ⟨congrArg (fun z => some (Value.int (iI z))) ?_, rfl, rfl⟩
          have hq : q_stamp s (i : Int) r w = stampF s (i : Int) r w := if_neg (fun q => q ⟨by omega, by omega⟩)
          rw [hq, stampF, if_neg (by omega), if_neg (by omega), if_neg (by omega), if_pos (by omega)]
          exact (bI_f (fun z => c_107 ((gap_iff hHR (by omega)).mpr z))).symm
        · skip
          refine V.iconst g0 d_X6_stamp_110 ?_
          refine V.goto g0 d_X6_stamp_111 ?_
          refine V.iret g d_X6_stamp_115 (Nat.zero_le _) (Nat.zero_le _) ⟨congrArg (fun z => some (Value.int (iI z))) ?_, rfl, rfl⟩
          have hq : q_stamp s (i : Int) r w = stampF s (i : Int) r w := if_neg (fun q => q ⟨by omega, by omega⟩)
          rw [hq, stampF, if_neg (by omega), if_neg (by omega), if_neg (by omega), if_pos (by omega)]
          exact (bI_t ((gap_iff hHR (by omega)).mp c_107)).symm
      · refine V.tin (q := 0) (off := 79) (t := 116) g0 d_X6_stamp_37 (by omega) (by omega) (by omega) (by rw [w_37]; rfl) (by decide) ?_
        refine V.il2 g0 d_X6_stamp_116 ?_
        refine V.iconst g0 d_X6_stamp_117 ?_
        refine V.idiv g0 d_X6_stamp_118 (by omega) (by decide) ?_
        refine V.iret g d_X6_stamp_119 (Nat.zero_le _) (Nat.zero_le _) ⟨congrArg (fun z => some (Value.int (iI z))) ?_, rfl, rfl⟩
        have hq : q_stamp s (i : Int) r w = stampF s (i : Int) r w := if_neg (fun q => q ⟨by omega, by omega⟩)
        rw [hq, stampF, if_neg (by omega), if_neg (by omega), if_neg (by omega), if_neg (by omega), if_pos (by omega)]
    · skip
      refine V.iconst g0 d_X6_stamp_27 ?_
      refine V.iret g d_X6_stamp_28 (Nat.zero_le _) (Nat.zero_le _) ⟨congrArg (fun z => some (Value.int (iI z))) ?_, rfl, rfl⟩
      exact (if_pos (fun q => c_24 (by have := q.2; exact ⟨this.1, by omega⟩))).symm

theorem d_X6_visa_0 : Dc cX6_visa 0 1 1 (.aload_n 0) := ⟨by decide +kernel, rfl⟩
theorem d_X6_visa_1 : Dc cX6_visa 1 3 4 (.getfield 12) := ⟨by decide +kernel, rfl⟩
theorem d_X6_visa_4 : Dc cX6_visa 4 1 5 (.iload_n 1) := ⟨by decide +kernel, rfl⟩
theorem d_X6_visa_5 : Dc cX6_visa 5 3 8 (.invokevirtual 106) := ⟨by decide +kernel, rfl⟩
theorem d_X6_visa_8 : Dc cX6_visa 8 2 10 (.astore 4) := ⟨by decide +kernel, rfl⟩
theorem d_X6_visa_10 : Dc cX6_visa 10 2 12 (.aload 4) := ⟨by decide +kernel, rfl⟩
theorem d_X6_visa_12 : Dj cX6_visa 12 15 22 .ifnull := ⟨10, by decide +kernel, rfl, by decide⟩
theorem d_X6_visa_15 : Dc cX6_visa 15 1 16 (.iload_n 2) := ⟨by decide +kernel, rfl⟩
theorem d_X6_visa_16 : Dc cX6_visa 16 3 19 (.invokestatic 161) := ⟨by decide +kernel, rfl⟩
theorem d_X6_visa_19 : Dj cX6_visa 19 22 24 (.ifCond .ne) := ⟨5, by decide +kernel, rfl, by decide⟩
theorem d_X6_visa_22 : Dc cX6_visa 22 1 23 (.iconst (-1)) := ⟨by decide +kernel, rfl⟩
theorem d_X6_visa_23 : decode cX6_visa 23 = .ok (.ireturn, 1) := by decide +kernel
theorem d_X6_visa_24 : Dc cX6_visa 24 1 25 (.iload_n 3) := ⟨by decide +kernel, rfl⟩
theorem d_X6_visa_25 : Dc cX6_visa 25 1 26 (.iconst 0) := ⟨by decide +kernel, rfl⟩
theorem d_X6_visa_26 : Dc cX6_visa 26 1 27 (.iconst 4) := ⟨by decide +kernel, rfl⟩
theorem d_X6_visa_27 : Dc cX6_visa 27 3 30 (.invokestatic 92) := ⟨by decide +kernel, rfl⟩
theorem d_X6_visa_30 : Dj cX6_visa 30 33 36 (.ifCond .ne) := ⟨6, by decide +kernel, rfl, by decide⟩
theorem d_X6_visa_33 : Dc cX6_visa 33 2 35 (.bipush (-2)) := ⟨by decide +kernel, rfl⟩
theorem d_X6_visa_35 : decode cX6_visa 35 = .ok (.ireturn, 1) := by decide +kernel
theorem d_X6_visa_36 : Dc cX6_visa 36 2 38 (.aload 4) := ⟨by decide +kernel, rfl⟩
theorem d_X6_visa_38 : Dc cX6_visa 38 1 39 (.iload_n 2) := ⟨by decide +kernel, rfl⟩
theorem d_X6_visa_39 : Dc cX6_visa 39 3 42 (.invokevirtual 164) := ⟨by decide +kernel, rfl⟩
theorem d_X6_visa_42 : Dc cX6_visa 42 2 44 (.astore 5) := ⟨by decide +kernel, rfl⟩
theorem d_X6_visa_44 : Dc cX6_visa 44 2 46 (.aload 5) := ⟨by decide +kernel, rfl⟩
theorem d_X6_visa_46 : Dj cX6_visa 46 49 52 .ifnonnull := ⟨6, by decide +kernel, rfl, by decide⟩
theorem d_X6_visa_49 : Dc cX6_visa 49 2 51 (.bipush (-5)) := ⟨by decide +kernel, rfl⟩
theorem d_X6_visa_51 : decode cX6_visa 51 = .ok (.ireturn, 1) := by decide +kernel
theorem d_X6_visa_52 : Dc cX6_visa 52 1 53 (.iload_n 3) := ⟨by decide +kernel, rfl⟩
theorem d_X6_visa_53 : decode cX6_visa 53 = .ok (.tableswitch 64 0 3 #[31, 37, 43, 49], 31) := by decide +kernel
theorem d_X6_visa_84 : Dc cX6_visa 84 2 86 (.aload 5) := ⟨by decide +kernel, rfl⟩
theorem d_X6_visa_86 : Dc cX6_visa 86 3 89 (.getfield 168) := ⟨by decide +kernel, rfl⟩
theorem d_X6_visa_89 : decode cX6_visa 89 = .ok (.ireturn, 1) := by decide +kernel
theorem d_X6_visa_90 : Dc cX6_visa 90 2 92 (.aload 5) := ⟨by decide +kernel, rfl⟩
theorem d_X6_visa_92 : Dc cX6_visa 92 3 95 (.getfield 173) := ⟨by decide +kernel, rfl⟩
theorem d_X6_visa_95 : decode cX6_visa 95 = .ok (.ireturn, 1) := by decide +kernel
theorem d_X6_visa_96 : Dc cX6_visa 96 2 98 (.aload 5) := ⟨by decide +kernel, rfl⟩
theorem d_X6_visa_98 : Dc cX6_visa 98 3 101 (.getfield 176) := ⟨by decide +kernel, rfl⟩
theorem d_X6_visa_101 : decode cX6_visa 101 = .ok (.ireturn, 1) := by decide +kernel
theorem d_X6_visa_102 : Dc cX6_visa 102 2 104 (.aload 4) := ⟨by decide +kernel, rfl⟩
theorem d_X6_visa_104 : Dc cX6_visa 104 2 106 (.aload 5) := ⟨by decide +kernel, rfl⟩
theorem d_X6_visa_106 : Dc cX6_visa 106 1 107 (.aload_n 0) := ⟨by decide +kernel, rfl⟩
theorem d_X6_visa_107 : Dc cX6_visa 107 3 110 (.getfield 12) := ⟨by decide +kernel, rfl⟩
theorem d_X6_visa_110 : Dc cX6_visa 110 3 113 (.getfield 103) := ⟨by decide +kernel, rfl⟩
theorem d_X6_visa_113 : Dc cX6_visa 113 3 116 (.invokevirtual 179) := ⟨by decide +kernel, rfl⟩
theorem d_X6_visa_116 : decode cX6_visa 116 = .ok (.ireturn, 1) := by decide +kernel
theorem d_X6_visa_117 : Dc cX6_visa 117 2 119 (.aload 5) := ⟨by decide +kernel, rfl⟩
theorem d_X6_visa_119 : Dc cX6_visa 119 1 120 (.aload_n 0) := ⟨by decide +kernel, rfl⟩
theorem d_X6_visa_120 : Dc cX6_visa 120 3 123 (.getfield 12) := ⟨by decide +kernel, rfl⟩
theorem d_X6_visa_123 : Dc cX6_visa 123 3 126 (.getfield 103) := ⟨by decide +kernel, rfl⟩
theorem d_X6_visa_126 : Dc cX6_visa 126 3 129 (.invokevirtual 183) := ⟨by decide +kernel, rfl⟩
theorem d_X6_visa_129 : Dj cX6_visa 129 132 136 (.ifCond .eq) := ⟨7, by decide +kernel, rfl, by decide⟩
theorem d_X6_visa_132 : Dc cX6_visa 132 1 133 (.iconst 1) := ⟨by decide +kernel, rfl⟩
theorem d_X6_visa_133 : Dj cX6_visa 133 136 137 .goto := ⟨4, by decide +kernel, rfl, by decide⟩
theorem d_X6_visa_136 : Dc cX6_visa 136 1 137 (.iconst 0) := ⟨by decide +kernel, rfl⟩
theorem d_X6_visa_137 : decode cX6_visa 137 = .ok (.ireturn, 1) := by decide +kernel
set_option maxHeartbeats 4000000 in
set_option maxRecDepth 20000 in
theorem c_X6_visa {E : Ev} {n : Nat} {M : Mem} {w o : Nat} {s : Int → Int} {fs : List Value} (h0 : M o = .inr (6, .ref (o + 1) :: fs)) (hN : SR E M w n (o + 1) s) {p c w : Int} (h1 : rg p) (h2 : rg c) (h3 : rg w) : MT E yX6_visa cX6_visa 6 (some .int) 2 0 0 [.ref o, .int (iI p), .int (iI c), .int (iI w)] n M (PF (some (.int (iI (q_visa s p c w)))) n (M)) := by
  refine MT.of (by decide) rfl (Nat.le_of_ble_eq_true rfl) ?_
  intro X g
  have g0 := g.1
  show V E X 0 0 n M 0 [some (.ref o), some (.int (iI p)), some (.int (iI c)), some (.int (iI w)), none, none] []
  obtain ⟨C, hS, hR, hv, hO⟩ := id hN
  have hR2 := hR
  obtain ⟨⟨ed, ei, ef⟩, hRow, hH⟩ := hR2
  have hm := hO.many
  have hdy := hO.day
  have a0 := hS.h0
  have a1 := hS.h1
  refine V.al0 g0 d_X6_visa_0 ?_
  refine V.getf g0 d_X6_visa_1 fl_X6_12 (by assumption) (by rfl) ?_
  refine V.il1 g0 d_X6_visa_4 ?_
  refine V.callVp g0 (c_X2_holderOf hS hm h1) ky_X2_holderOf ki_X2_holderOf ks2_X2_holderOf lk_X6_106 (by assumption) rfl rfl (Nat.le_of_ble_eq_true rfl) ⟨Nat.zero_le _, Nat.zero_le _⟩ rfl rfl (Nat.le_of_ble_eq_true rfl) d_X6_visa_5 ?_
  rcases holQ_c (o + 1) (s 619) p with ⟨hp, he⟩ | ⟨i, hi, hp, he⟩
  · skip
    rw [he, show va_rf none = Value.null from rfl]
    refine V.asN4 g0 d_X6_visa_8 ?_
    refine V.alN4 g0 d_X6_visa_10 ?_
    refine V.ifnullN g0 d_X6_visa_12 ?_
    refine V.iconst g0 d_X6_visa_22 ?_
    refine V.iret g d_X6_visa_23 (Nat.zero_le _) (Nat.zero_le _) ⟨congrArg (fun z => some (Value.int (iI z))) ?_, rfl, rfl⟩
    exact (if_pos (fun q => hp q.1)).symm
  · skip
    subst hp
    rw [he, show va_rf (some (hbs (o + 1) i)) = Value.ref (hbs (o + 1) i) from rfl]
    have hho := hS.ho (i := i) (by omega)
    have hrow := hRow i (by omega)
    obtain ⟨hHR, hVR⟩ := hH i (by omega)
    have hk := hO.at (p := (i : Int)) (by omega) (by omega)
    have g0a := hho.h0
    have g1a := hho.h1
    have g4a := hho.h4
    have g5a := hho.h5
    have hjO := HolR.jOk hHR hk
    have hbO := HolR.bOk hHR hk
    have e8 : hcb (C i) = s (103 * (i : Int) + 8) := hHR.1.2.2.2.2
    have e8b : (C i).2.2.2.2.2.2.2.2.1 = s (103 * (i : Int) + 8) := hHR.1.2.2.2.2
    have hb8 := hk.stm
    refine V.as4 g0 d_X6_visa_8 ?_
    refine V.al4 g0 d_X6_visa_10 ?_
    refine V.ifnull g0 d_X6_visa_12 ?_
    refine V.il2 g0 d_X6_visa_15 ?_
    refine V.callSp g0 (c_X6_isCountry h2) ky_X6_isCountry ks_X6_isCountry lk_X6_161 (Nat.le_of_ble_eq_true rfl) ⟨Nat.zero_le _, Nat.zero_le _⟩ rfl rfl (Nat.le_of_ble_eq_true rfl) d_X6_visa_16 ?_
    refine V.ifneB g0 d_X6_visa_19 (fun c_19 => ?_) (fun c_19 => ?_)
    · skip
      refine V.il3 g0 d_X6_visa_24 ?_
      refine V.iconst g0 d_X6_visa_25 ?_
      refine V.iconst g0 d_X6_visa_26 ?_
      refine V.callSp g0 (c_X6_isWithin h3 (by decide) (by decide)) ky_X6_isWithin ks_X6_isWithin lk_X6_92 (Nat.le_of_ble_eq_true rfl) ⟨Nat.zero_le _, Nat.zero_le _⟩ rfl rfl (Nat.le_of_ble_eq_true rfl) d_X6_visa_27 ?_
      refine V.ifneB g0 d_X6_visa_30 (fun c_30 => ?_) (fun c_30 => ?_)
      · skip
        refine V.al4 g0 d_X6_visa_36 ?_
        refine V.il2 g0 d_X6_visa_38 ?_
        refine V.callVp g0 (c_X1_visaFor hho (by omega)) ky_X1_visaFor ki_X1_visaFor ks2_X1_visaFor lk_X6_164 (by assumption) rfl rfl (Nat.le_of_ble_eq_true rfl) ⟨Nat.zero_le _, Nat.zero_le _⟩ rfl rfl (Nat.le_of_ble_eq_true rfl) d_X6_visa_39 ?_
        have hvv := hVR c (by omega) (by omega)
        have hvb := hk.vis (c := c) (by omega) (by omega)
        have hA : areT s (i : Int) c := ⟨by omega, c_19⟩
        rcases hvv with ⟨hev, hn⟩ | ⟨a, hev, ha, hn⟩
        · skip
          rw [show (C i).2.2.2.2.2.2.2.2.2.2 c = none from hev, show va_rf none = Value.null from rfl]
          refine V.asN5 g0 d_X6_visa_42 ?_
          refine V.alN5 g0 d_X6_visa_44 ?_
          refine V.ifnonnullN g0 d_X6_visa_46 ?_
          refine V.bipush g0 d_X6_visa_49 (by decide) ?_
          refine V.iret g d_X6_visa_51 (Nat.zero_le _) (Nat.zero_le _) ⟨congrArg (fun z => some (Value.int (iI z))) ?_, rfl, rfl⟩
          exact ((if_neg (fun q => q hA)).trans ((if_neg (fun q => q c_30)).trans (if_pos hn))).symm
        · skip
          rw [show (C i).2.2.2.2.2.2.2.2.2.2 c = some a from hev, show va_rf (some a) = Value.ref a from rfl]
          have ha2 := ha
          unfold viC at ha2
          refine V.as5 g0 d_X6_visa_42 ?_
          refine V.al5 g0 d_X6_visa_44 ?_
          refine V.ifnonnull g0 d_X6_visa_46 ?_
          refine V.il3 g0 d_X6_visa_52 ?_
          rcases (show (w < 0 ∨ 3 < w) ∨ w = 0 ∨ w = 1 ∨ w = 2 ∨ w = 3 by omega) with w_53 | w_53 | w_53 | w_53 | w_53
          · refine V.tout (q := 0) (t := 117) g0 d_X6_visa_53 (by omega) w_53 (by decide) ?_
            refine V.al5 g0 d_X6_visa_117 ?_
            refine V.al0 g0 d_X6_visa_119 ?_
            refine V.getf g0 d_X6_visa_120 fl_X6_12 (by assumption) (by rfl) ?_
            refine V.getf g0 d_X6_visa_123 fl_X6_103 (by assumption) (by rfl) ?_
            refine V.callVp g0 (c_X5_isValidOn ha (by constructor <;> omega) (by constructor <;> omega) (by constructor <;> omega)) ky_X5_isValidOn ki_X5_isValidOn ks2_X5_isValidOn lk_X6_183 ha2 rfl rfl (Nat.le_of_ble_eq_true rfl) ⟨Nat.zero_le _, Nat.zero_le _⟩ rfl rfl (Nat.le_of_ble_eq_true rfl) d_X6_visa_126 ?_
            refine V.ifeqB g0 d_X6_visa_129 (fun c_129 => ?_) (fun c_129 => ?_)
            · skip
              refine V.iconst g0 d_X6_visa_136 ?_
              refine V.iret g d_X6_visa_137 (Nat.zero_le _) (Nat.zero_le _) ⟨congrArg (fun z => some (Value.int (iI z))) ?_, rfl, rfl⟩
              have hq : q_visa s (i : Int) c w = if w < 3 then vOf s (i : Int) c w else if w = 3 then usedOn s (i : Int) c (s 618) else bI (validOn s (i : Int) c (s 618)) := (if_neg (fun q => q hA)).trans ((if_neg (fun q => q c_30)).trans (if_neg (fun q => q hn)))
              rw [hq, if_neg (by omega), if_neg (by omega)]
              exact (bI_f (fun z => c_129 z.2)).symm
            · skip
              refine V.iconst g0 d_X6_visa_132 ?_
              refine V.goto g0 d_X6_visa_133 ?_
              refine V.iret g d_X6_visa_137 (Nat.zero_le _) (Nat.zero_le _) ⟨congrArg (fun z => some (Value.int (iI z))) ?_, rfl, rfl⟩
              have hq : q_visa s (i : Int) c w = if w < 3 then vOf s (i : Int) c w else if w = 3 then usedOn s (i : Int) c (s 618) else bI (validOn s (i : Int) c (s 618)) := (if_neg (fun q => q hA)).trans ((if_neg (fun q => q c_30)).trans (if_neg (fun q => q hn)))
              rw [hq, if_neg (by omega), if_neg (by omega)]
              exact (bI_t ⟨hn, c_129⟩).symm
          · refine V.tin (q := 0) (off := 31) (t := 84) g0 d_X6_visa_53 (by omega) (by omega) (by omega) (by rw [w_53]; rfl) (by decide) ?_
            refine V.al5 g0 d_X6_visa_84 ?_
            refine V.getf g0 d_X6_visa_86 fl_X6_168 (by assumption) (by rfl) ?_
            refine V.iret g d_X6_visa_89 (Nat.zero_le _) (Nat.zero_le _) ⟨congrArg (fun z => some (Value.int (iI z))) ?_, rfl, rfl⟩
            have hq : q_visa s (i : Int) c w = if w < 3 then vOf s (i : Int) c w else if w = 3 then usedOn s (i : Int) c (s 618) else bI (validOn s (i : Int) c (s 618)) := (if_neg (fun q => q hA)).trans ((if_neg (fun q => q c_30)).trans (if_neg (fun q => q hn)))
            rw [hq, if_pos (by omega), show w = 0 from w_53]
          · refine V.tin (q := 0) (off := 37) (t := 90) g0 d_X6_visa_53 (by omega) (by omega) (by omega) (by rw [w_53]; rfl) (by decide) ?_
            refine V.al5 g0 d_X6_visa_90 ?_
            refine V.getf g0 d_X6_visa_92 fl_X6_173 (by assumption) (by rfl) ?_
            refine V.iret g d_X6_visa_95 (Nat.zero_le _) (Nat.zero_le _) ⟨congrArg (fun z => some (Value.int (iI z))) ?_, rfl, rfl⟩
            have hq : q_visa s (i : Int) c w = if w < 3 then vOf s (i : Int) c w else if w = 3 then usedOn s (i : Int) c (s 618) else bI (validOn s (i : Int) c (s 618)) := (if_neg (fun q => q hA)).trans ((if_neg (fun q => q c_30)).trans (if_neg (fun q => q hn)))
            rw [hq, if_pos (by omega), show w = 1 from w_53]
          · refine V.tin (q := 0) (off := 43) (t := 96) g0 d_X6_visa_53 (by omega) (by omega) (by omega) (by rw [w_53]; rfl) (by decide) ?_
            refine V.al5 g0 d_X6_visa_96 ?_
            refine V.getf g0 d_X6_visa_98 fl_X6_176 (by assumption) (by rfl) ?_
            refine V.iret g d_X6_visa_101 (Nat.zero_le _) (Nat.zero_le _) ⟨congrArg (fun z => some (Value.int (iI z))) ?_, rfl, rfl⟩
            have hq : q_visa s (i : Int) c w = if w < 3 then vOf s (i : Int) c w else if w = 3 then usedOn s (i : Int) c (s 618) else bI (validOn s (i : Int) c (s 618)) := (if_neg (fun q => q hA)).trans ((if_neg (fun q => q c_30)).trans (if_neg (fun q => q hn)))
            rw [hq, if_pos (by omega), show w = 2 from w_53]
          · refine V.tin (q := 0) (off := 49) (t := 102) g0 d_X6_visa_53 (by omega) (by omega) (by omega) (by rw [w_53]; rfl) (by decide) ?_
            refine V.al4 g0 d_X6_visa_102 ?_
            refine V.al5 g0 d_X6_visa_104 ?_
            refine V.al0 g0 d_X6_visa_106 ?_
            refine V.getf g0 d_X6_visa_107 fl_X6_12 (by assumption) (by rfl) ?_
            refine V.getf g0 d_X6_visa_110 fl_X6_103 (by assumption) (by rfl) ?_
            refine V.callVp g0 (c_X1_usedDays hho hHR hk ha (by omega) hvb.1 hvb.2.1 (by omega)) ky_X1_usedDays ki_X1_usedDays ks2_X1_usedDays lk_X6_179 (by assumption) rfl rfl (Nat.le_of_ble_eq_true rfl) ⟨Nat.zero_le _, Nat.zero_le _⟩ rfl rfl (Nat.le_of_ble_eq_true rfl) d_X6_visa_113 ?_
            refine V.iret g d_X6_visa_116 (Nat.zero_le _) (Nat.zero_le _) ⟨congrArg (fun z => some (Value.int (iI z))) ?_, rfl, rfl⟩
            have hq : q_visa s (i : Int) c w = if w < 3 then vOf s (i : Int) c w else if w = 3 then usedOn s (i : Int) c (s 618) else bI (validOn s (i : Int) c (s 618)) := (if_neg (fun q => q hA)).trans ((if_neg (fun q => q c_30)).trans (if_neg (fun q => q hn)))
            rw [hq, if_neg (by omega), if_pos (by omega)]; rfl
      · skip
        refine V.bipush g0 d_X6_visa_33 (by decide) ?_
        refine V.iret g d_X6_visa_35 (Nat.zero_le _) (Nat.zero_le _) ⟨congrArg (fun z => some (Value.int (iI z))) ?_, rfl, rfl⟩
        exact ((if_neg (fun q => q ⟨by omega, c_19⟩)).trans (if_pos c_30)).symm
    · skip
      refine V.iconst g0 d_X6_visa_22 ?_
      refine V.iret g d_X6_visa_23 (Nat.zero_le _) (Nat.zero_le _) ⟨congrArg (fun z => some (Value.int (iI z))) ?_, rfl, rfl⟩
      exact (if_pos (fun q => c_19 q.2)).symm

theorem d_X6_reason_0 : Dc cX6_reason 0 1 1 (.aload_n 0) := ⟨by decide +kernel, rfl⟩
theorem d_X6_reason_1 : Dc cX6_reason 1 3 4 (.getfield 12) := ⟨by decide +kernel, rfl⟩
theorem d_X6_reason_4 : Dc cX6_reason 4 1 5 (.iload_n 1) := ⟨by decide +kernel, rfl⟩
theorem d_X6_reason_5 : Dc cX6_reason 5 3 8 (.invokevirtual 106) := ⟨by decide +kernel, rfl⟩
theorem d_X6_reason_8 : Dc cX6_reason 8 1 9 (.astore_n 3) := ⟨by decide +kernel, rfl⟩
theorem d_X6_reason_9 : Dc cX6_reason 9 1 10 (.aload_n 3) := ⟨by decide +kernel, rfl⟩
theorem d_X6_reason_10 : Dj cX6_reason 10 13 20 .ifnull := ⟨10, by decide +kernel, rfl, by decide⟩
theorem d_X6_reason_13 : Dc cX6_reason 13 1 14 (.iload_n 2) := ⟨by decide +kernel, rfl⟩
theorem d_X6_reason_14 : Dc cX6_reason 14 3 17 (.invokestatic 161) := ⟨by decide +kernel, rfl⟩
theorem d_X6_reason_17 : Dj cX6_reason 17 20 22 (.ifCond .ne) := ⟨5, by decide +kernel, rfl, by decide⟩
theorem d_X6_reason_20 : Dc cX6_reason 20 1 21 (.iconst (-1)) := ⟨by decide +kernel, rfl⟩
theorem d_X6_reason_21 : decode cX6_reason 21 = .ok (.ireturn, 1) := by decide +kernel
theorem d_X6_reason_22 : Dc cX6_reason 22 1 23 (.aload_n 0) := ⟨by decide +kernel, rfl⟩
theorem d_X6_reason_23 : Dc cX6_reason 23 3 26 (.getfield 12) := ⟨by decide +kernel, rfl⟩
theorem d_X6_reason_26 : Dc cX6_reason 26 1 27 (.aload_n 3) := ⟨by decide +kernel, rfl⟩
theorem d_X6_reason_27 : Dc cX6_reason 27 1 28 (.iload_n 2) := ⟨by decide +kernel, rfl⟩
theorem d_X6_reason_28 : Dc cX6_reason 28 1 29 (.iconst 2) := ⟨by decide +kernel, rfl⟩
theorem d_X6_reason_29 : Dc cX6_reason 29 3 32 (.invokevirtual 186) := ⟨by decide +kernel, rfl⟩
theorem d_X6_reason_32 : decode cX6_reason 32 = .ok (.ireturn, 1) := by decide +kernel
set_option maxHeartbeats 4000000 in
set_option maxRecDepth 20000 in
theorem c_X6_reason {E : Ev} {n : Nat} {M : Mem} {w o : Nat} {s : Int → Int} {fs : List Value} (h0 : M o = .inr (6, .ref (o + 1) :: fs)) (hN : SR E M w n (o + 1) s) {p c : Int} (h1 : rg p) (h2 : rg c) : MT E yX6_reason cX6_reason 4 (some .int) 5 0 0 [.ref o, .int (iI p), .int (iI c)] n M (PF (some (.int (iI (q_reason s p c)))) n (M)) := by
  refine MT.of (by decide) rfl (Nat.le_of_ble_eq_true rfl) ?_
  intro X g
  have g0 := g.1
  show V E X 0 0 n M 0 [some (.ref o), some (.int (iI p)), some (.int (iI c)), none] []
  obtain ⟨C, hS, hR, hv, hO⟩ := id hN
  have hR2 := hR
  obtain ⟨⟨ed, ei, ef⟩, hRow, hH⟩ := hR2
  have hm := hO.many
  have hdy := hO.day
  have a0 := hS.h0
  have a1 := hS.h1
  refine V.al0 g0 d_X6_reason_0 ?_
  refine V.getf g0 d_X6_reason_1 fl_X6_12 (by assumption) (by rfl) ?_
  refine V.il1 g0 d_X6_reason_4 ?_
  refine V.callVp g0 (c_X2_holderOf hS hm h1) ky_X2_holderOf ki_X2_holderOf ks2_X2_holderOf lk_X6_106 (by assumption) rfl rfl (Nat.le_of_ble_eq_true rfl) ⟨Nat.zero_le _, Nat.zero_le _⟩ rfl rfl (Nat.le_of_ble_eq_true rfl) d_X6_reason_5 ?_
  rcases holQ_c (o + 1) (s 619) p with ⟨hp, he⟩ | ⟨i, hi, hp, he⟩
  · skip
    rw [he, show va_rf none = Value.null from rfl]
    refine V.asN3 g0 d_X6_reason_8 ?_
    refine V.alN3 g0 d_X6_reason_9 ?_
    refine V.ifnullN g0 d_X6_reason_10 ?_
    refine V.iconst g0 d_X6_reason_20 ?_
    refine V.iret g d_X6_reason_21 (Nat.zero_le _) (Nat.zero_le _) ⟨congrArg (fun z => some (Value.int (iI z))) ?_, rfl, rfl⟩
    exact (if_neg (fun q => hp q.1)).symm
  · skip
    subst hp
    rw [he, show va_rf (some (hbs (o + 1) i)) = Value.ref (hbs (o + 1) i) from rfl]
    have hho := hS.ho (i := i) (by omega)
    have hrow := hRow i (by omega)
    obtain ⟨hHR, hVR⟩ := hH i (by omega)
    have hk := hO.at (p := (i : Int)) (by omega) (by omega)
    have g0a := hho.h0
    have g1a := hho.h1
    have g4a := hho.h4
    have g5a := hho.h5
    have hjO := HolR.jOk hHR hk
    have hbO := HolR.bOk hHR hk
    have e8 : hcb (C i) = s (103 * (i : Int) + 8) := hHR.1.2.2.2.2
    have e8b : (C i).2.2.2.2.2.2.2.2.1 = s (103 * (i : Int) + 8) := hHR.1.2.2.2.2
    have hb8 := hk.stm
    refine V.as3 g0 d_X6_reason_8 ?_
    refine V.al3 g0 d_X6_reason_9 ?_
    refine V.ifnull g0 d_X6_reason_10 ?_
    refine V.il2 g0 d_X6_reason_13 ?_
    refine V.callSp g0 (c_X6_isCountry h2) ky_X6_isCountry ks_X6_isCountry lk_X6_161 (Nat.le_of_ble_eq_true rfl) ⟨Nat.zero_le _, Nat.zero_le _⟩ rfl rfl (Nat.le_of_ble_eq_true rfl) d_X6_reason_14 ?_
    refine V.ifneB g0 d_X6_reason_17 (fun c_17 => ?_) (fun c_17 => ?_)
    · skip
      refine V.al0 g0 d_X6_reason_22 ?_
      refine V.getf g0 d_X6_reason_23 fl_X6_12 (by assumption) (by rfl) ?_
      refine V.al3 g0 d_X6_reason_26 ?_
      refine V.il2 g0 d_X6_reason_27 ?_
      refine V.iconst g0 d_X6_reason_28 ?_
      refine V.callVp g0 (c_X2_reasonAgainst hS hR hO CloR_of hi (by omega) (by omega)) ky_X2_reasonAgainst ki_X2_reasonAgainst ks2_X2_reasonAgainst lk_X6_186 (by assumption) rfl rfl (Nat.le_of_ble_eq_true rfl) ⟨Nat.zero_le _, Nat.zero_le _⟩ rfl rfl (Nat.le_of_ble_eq_true rfl) d_X6_reason_29 ?_
      refine V.iret g d_X6_reason_32 (Nat.zero_le _) (Nat.zero_le _) ⟨congrArg (fun z => some (Value.int (iI z))) ?_, rfl, rfl⟩
      exact (if_pos ⟨by omega, c_17⟩).symm
    · skip
      refine V.iconst g0 d_X6_reason_20 ?_
      refine V.iret g d_X6_reason_21 (Nat.zero_le _) (Nat.zero_le _) ⟨congrArg (fun z => some (Value.int (iI z))) ?_, rfl, rfl⟩
      exact (if_neg (fun q => c_17 q.2)).symm

theorem d_X6_stay_0 : Dc cX6_stay 0 1 1 (.aload_n 0) := ⟨by decide +kernel, rfl⟩
theorem d_X6_stay_1 : Dc cX6_stay 1 3 4 (.getfield 12) := ⟨by decide +kernel, rfl⟩
theorem d_X6_stay_4 : Dc cX6_stay 4 1 5 (.iload_n 1) := ⟨by decide +kernel, rfl⟩
theorem d_X6_stay_5 : Dc cX6_stay 5 3 8 (.invokevirtual 106) := ⟨by decide +kernel, rfl⟩
theorem d_X6_stay_8 : Dc cX6_stay 8 2 10 (.astore 6) := ⟨by decide +kernel, rfl⟩
theorem d_X6_stay_10 : Dc cX6_stay 10 2 12 (.aload 6) := ⟨by decide +kernel, rfl⟩
theorem d_X6_stay_12 : Dj cX6_stay 12 15 22 .ifnull := ⟨10, by decide +kernel, rfl, by decide⟩
theorem d_X6_stay_15 : Dc cX6_stay 15 1 16 (.iload_n 2) := ⟨by decide +kernel, rfl⟩
theorem d_X6_stay_16 : Dc cX6_stay 16 3 19 (.invokestatic 161) := ⟨by decide +kernel, rfl⟩
theorem d_X6_stay_19 : Dj cX6_stay 19 22 24 (.ifCond .ne) := ⟨5, by decide +kernel, rfl, by decide⟩
theorem d_X6_stay_22 : Dc cX6_stay 22 1 23 (.iconst (-1)) := ⟨by decide +kernel, rfl⟩
theorem d_X6_stay_23 : decode cX6_stay 23 = .ok (.ireturn, 1) := by decide +kernel
theorem d_X6_stay_24 : Dc cX6_stay 24 1 25 (.iload_n 3) := ⟨by decide +kernel, rfl⟩
theorem d_X6_stay_25 : Dc cX6_stay 25 2 27 (.iload 4) := ⟨by decide +kernel, rfl⟩
theorem d_X6_stay_27 : Dc cX6_stay 27 3 30 (.invokestatic 190) := ⟨by decide +kernel, rfl⟩
theorem d_X6_stay_30 : Dj cX6_stay 30 33 36 (.ifCond .ne) := ⟨6, by decide +kernel, rfl, by decide⟩
theorem d_X6_stay_33 : Dc cX6_stay 33 2 35 (.bipush (-2)) := ⟨by decide +kernel, rfl⟩
theorem d_X6_stay_35 : decode cX6_stay 35 = .ok (.ireturn, 1) := by decide +kernel
theorem d_X6_stay_36 : Dc cX6_stay 36 2 38 (.iload 5) := ⟨by decide +kernel, rfl⟩
theorem d_X6_stay_38 : Dj cX6_stay 38 41 52 (.ifCond .eq) := ⟨14, by decide +kernel, rfl, by decide⟩
theorem d_X6_stay_41 : Dc cX6_stay 41 2 43 (.aload 6) := ⟨by decide +kernel, rfl⟩
theorem d_X6_stay_43 : Dc cX6_stay 43 3 46 (.getfield 121) := ⟨by decide +kernel, rfl⟩
theorem d_X6_stay_46 : Dc cX6_stay 46 3 49 (.getfield 194) := ⟨by decide +kernel, rfl⟩
theorem d_X6_stay_49 : Dj cX6_stay 49 52 57 .goto := ⟨8, by decide +kernel, rfl, by decide⟩
theorem d_X6_stay_52 : Dc cX6_stay 52 2 54 (.aload 6) := ⟨by decide +kernel, rfl⟩
theorem d_X6_stay_54 : Dc cX6_stay 54 3 57 (.getfield 198) := ⟨by decide +kernel, rfl⟩
theorem d_X6_stay_57 : Dc cX6_stay 57 2 59 (.astore 7) := ⟨by decide +kernel, rfl⟩
theorem d_X6_stay_59 : Dc cX6_stay 59 2 61 (.aload 7) := ⟨by decide +kernel, rfl⟩
theorem d_X6_stay_61 : Dc cX6_stay 61 1 62 (.iload_n 2) := ⟨by decide +kernel, rfl⟩
theorem d_X6_stay_62 : Dc cX6_stay 62 1 63 (.iload_n 3) := ⟨by decide +kernel, rfl⟩
theorem d_X6_stay_63 : Dc cX6_stay 63 2 65 (.iload 4) := ⟨by decide +kernel, rfl⟩
theorem d_X6_stay_65 : Dc cX6_stay 65 1 66 (.aload_n 0) := ⟨by decide +kernel, rfl⟩
theorem d_X6_stay_66 : Dc cX6_stay 66 3 69 (.getfield 12) := ⟨by decide +kernel, rfl⟩
theorem d_X6_stay_69 : Dc cX6_stay 69 3 72 (.getfield 103) := ⟨by decide +kernel, rfl⟩
theorem d_X6_stay_72 : Dc cX6_stay 72 1 73 (.iconst 1) := ⟨by decide +kernel, rfl⟩
theorem d_X6_stay_73 : Dc cX6_stay 73 1 74 .isub := ⟨by decide +kernel, rfl⟩
theorem d_X6_stay_74 : Dc cX6_stay 74 3 77 (.invokestatic 201) := ⟨by decide +kernel, rfl⟩
theorem d_X6_stay_77 : Dc cX6_stay 77 3 80 (.invokevirtual 206) := ⟨by decide +kernel, rfl⟩
theorem d_X6_stay_80 : decode cX6_stay 80 = .ok (.ireturn, 1) := by decide +kernel
set_option maxHeartbeats 4000000 in
set_option maxRecDepth 20000 in
theorem c_X6_stay {E : Ev} {n : Nat} {M : Mem} {w o : Nat} {s : Int → Int} {fs : List Value} (h0 : M o = .inr (6, .ref (o + 1) :: fs)) (hN : SR E M w n (o + 1) s) {p c x u t : Int} (h1 : rg p) (h2 : rg c) (h3 : rg x) (h4 : rg u) (h5 : rg t) : MT E yX6_stay cX6_stay 8 (some .int) 2 0 0 [.ref o, .int (iI p), .int (iI c), .int (iI x), .int (iI u), .int (iI t)] n M (PF (some (.int (iI (q_stay s p c x u t)))) n (M)) := by
  refine MT.of (by decide) rfl (Nat.le_of_ble_eq_true rfl) ?_
  intro X g
  have g0 := g.1
  show V E X 0 0 n M 0 [some (.ref o), some (.int (iI p)), some (.int (iI c)), some (.int (iI x)), some (.int (iI u)), some (.int (iI t)), none, none] []
  obtain ⟨C, hS, hR, hv, hO⟩ := id hN
  have hR2 := hR
  obtain ⟨⟨ed, ei, ef⟩, hRow, hH⟩ := hR2
  have hm := hO.many
  have hdy := hO.day
  have a0 := hS.h0
  have a1 := hS.h1
  refine V.al0 g0 d_X6_stay_0 ?_
  refine V.getf g0 d_X6_stay_1 fl_X6_12 (by assumption) (by rfl) ?_
  refine V.il1 g0 d_X6_stay_4 ?_
  refine V.callVp g0 (c_X2_holderOf hS hm h1) ky_X2_holderOf ki_X2_holderOf ks2_X2_holderOf lk_X6_106 (by assumption) rfl rfl (Nat.le_of_ble_eq_true rfl) ⟨Nat.zero_le _, Nat.zero_le _⟩ rfl rfl (Nat.le_of_ble_eq_true rfl) d_X6_stay_5 ?_
  rcases holQ_c (o + 1) (s 619) p with ⟨hp, he⟩ | ⟨i, hi, hp, he⟩
  · skip
    rw [he, show va_rf none = Value.null from rfl]
    refine V.asN6 g0 d_X6_stay_8 ?_
    refine V.alN6 g0 d_X6_stay_10 ?_
    refine V.ifnullN g0 d_X6_stay_12 ?_
    refine V.iconst g0 d_X6_stay_22 ?_
    refine V.iret g d_X6_stay_23 (Nat.zero_le _) (Nat.zero_le _) ⟨congrArg (fun z => some (Value.int (iI z))) ?_, rfl, rfl⟩
    exact (if_pos (fun q => hp q.1)).symm
  · skip
    subst hp
    rw [he, show va_rf (some (hbs (o + 1) i)) = Value.ref (hbs (o + 1) i) from rfl]
    have hho := hS.ho (i := i) (by omega)
    have hrow := hRow i (by omega)
    obtain ⟨hHR, hVR⟩ := hH i (by omega)
    have hk := hO.at (p := (i : Int)) (by omega) (by omega)
    have g0a := hho.h0
    have g1a := hho.h1
    have g4a := hho.h4
    have g5a := hho.h5
    have hjO := HolR.jOk hHR hk
    have hbO := HolR.bOk hHR hk
    have e8 : hcb (C i) = s (103 * (i : Int) + 8) := hHR.1.2.2.2.2
    have e8b : (C i).2.2.2.2.2.2.2.2.1 = s (103 * (i : Int) + 8) := hHR.1.2.2.2.2
    have hb8 := hk.stm
    refine V.as6 g0 d_X6_stay_8 ?_
    refine V.al6 g0 d_X6_stay_10 ?_
    refine V.ifnull g0 d_X6_stay_12 ?_
    refine V.il2 g0 d_X6_stay_15 ?_
    refine V.callSp g0 (c_X6_isCountry h2) ky_X6_isCountry ks_X6_isCountry lk_X6_161 (Nat.le_of_ble_eq_true rfl) ⟨Nat.zero_le _, Nat.zero_le _⟩ rfl rfl (Nat.le_of_ble_eq_true rfl) d_X6_stay_16 ?_
    refine V.ifneB g0 d_X6_stay_19 (fun c_19 => ?_) (fun c_19 => ?_)
    · skip
      refine V.il3 g0 d_X6_stay_24 ?_
      refine V.il4 g0 d_X6_stay_25 ?_
      refine V.callSp g0 (c_X6_isSpan h3 h4) ky_X6_isSpan ks_X6_isSpan lk_X6_190 (Nat.le_of_ble_eq_true rfl) ⟨Nat.zero_le _, Nat.zero_le _⟩ rfl rfl (Nat.le_of_ble_eq_true rfl) d_X6_stay_27 ?_
      refine V.ifneB g0 d_X6_stay_30 (fun c_30 => ?_) (fun c_30 => ?_)
      · skip
        refine V.il5 g0 d_X6_stay_36 ?_
        refine V.ifeq g0 d_X6_stay_38 (by omega) (fun c_38 => ?_) (fun c_38 => ?_)
        · skip
          refine V.al6 g0 d_X6_stay_52 ?_
          refine V.getf g0 d_X6_stay_54 fl_X6_198 (by assumption) (by rfl) ?_
          refine V.as7 g0 d_X6_stay_57 ?_
          refine V.al7 g0 d_X6_stay_59 ?_
          refine V.il2 g0 d_X6_stay_61 ?_
          refine V.il3 g0 d_X6_stay_62 ?_
          refine V.il4 g0 d_X6_stay_63 ?_
          refine V.al0 g0 d_X6_stay_65 ?_
          refine V.getf g0 d_X6_stay_66 fl_X6_12 (by assumption) (by rfl) ?_
          refine V.getf g0 d_X6_stay_69 fl_X6_103 (by assumption) (by rfl) ?_
          refine V.iconst g0 d_X6_stay_72 ?_
          refine V.isub g0 d_X6_stay_73 ?_
          refine V.callSp g0 (c_J9_min_7cf53 (by constructor <;> omega) (by constructor <;> omega)) ky_J9_min_7cf53 ks_J9_min_7cf53 lk_X6_201 (Nat.le_of_ble_eq_true rfl) ⟨Nat.zero_le _, Nat.zero_le _⟩ rfl rfl (Nat.le_of_ble_eq_true rfl) d_X6_stay_74 ?_
          refine V.callVp g0 (c_X4_daysIn hho.tr hjO c_19 c_30.1 (by omega)) ky_X4_daysIn ki_X4_daysIn ks2_X4_daysIn lk_X6_206 (by assumption) rfl rfl (Nat.le_of_ble_eq_true rfl) ⟨Nat.zero_le _, Nat.zero_le _⟩ rfl rfl (Nat.le_of_ble_eq_true rfl) d_X6_stay_77 ?_
          refine V.iret g d_X6_stay_80 (Nat.zero_le _) (Nat.zero_le _) ⟨congrArg (fun z => some (Value.int (iI z))) ?_, rfl, rfl⟩
          exact (((if_neg (fun q => q (show areT s (i : Int) c from ⟨by omega, c_19⟩))).trans ((if_neg (fun q => q c_30)).trans (if_pos (by omega)))).trans (real_eq hHR hk c_19.1).symm).symm
        · skip
          refine V.al6 g0 d_X6_stay_41 ?_
          refine V.getf g0 d_X6_stay_43 fl_X6_121 (by assumption) (by rfl) ?_
          refine V.getf g0 d_X6_stay_46 fl_X6_194 (by assumption) (by rfl) ?_
          refine V.goto g0 d_X6_stay_49 ?_
          refine V.as7 g0 d_X6_stay_57 ?_
          refine V.al7 g0 d_X6_stay_59 ?_
          refine V.il2 g0 d_X6_stay_61 ?_
          refine V.il3 g0 d_X6_stay_62 ?_
          refine V.il4 g0 d_X6_stay_63 ?_
          refine V.al0 g0 d_X6_stay_65 ?_
          refine V.getf g0 d_X6_stay_66 fl_X6_12 (by assumption) (by rfl) ?_
          refine V.getf g0 d_X6_stay_69 fl_X6_103 (by assumption) (by rfl) ?_
          refine V.iconst g0 d_X6_stay_72 ?_
          refine V.isub g0 d_X6_stay_73 ?_
          refine V.callSp g0 (c_J9_min_7cf53 (by constructor <;> omega) (by constructor <;> omega)) ky_J9_min_7cf53 ks_J9_min_7cf53 lk_X6_201 (Nat.le_of_ble_eq_true rfl) ⟨Nat.zero_le _, Nat.zero_le _⟩ rfl rfl (Nat.le_of_ble_eq_true rfl) d_X6_stay_74 ?_
          refine V.callVp g0 (c_X4_daysIn hho.bo.tr hbO.1 c_19 c_30.1 (by omega)) ky_X4_daysIn ki_X4_daysIn ks2_X4_daysIn lk_X6_206 (by assumption) rfl rfl (Nat.le_of_ble_eq_true rfl) ⟨Nat.zero_le _, Nat.zero_le _⟩ rfl rfl (Nat.le_of_ble_eq_true rfl) d_X6_stay_77 ?_
          refine V.iret g d_X6_stay_80 (Nat.zero_le _) (Nat.zero_le _) ⟨congrArg (fun z => some (Value.int (iI z))) ?_, rfl, rfl⟩
          exact (((if_neg (fun q => q (show areT s (i : Int) c from ⟨by omega, c_19⟩))).trans ((if_neg (fun q => q c_30)).trans (if_neg c_38))).trans (told_eq hHR hk c_19.1).symm).symm
      · skip
        refine V.bipush g0 d_X6_stay_33 (by decide) ?_
        refine V.iret g d_X6_stay_35 (Nat.zero_le _) (Nat.zero_le _) ⟨congrArg (fun z => some (Value.int (iI z))) ?_, rfl, rfl⟩
        exact ((if_neg (fun q => q ⟨by omega, c_19⟩)).trans (if_pos c_30)).symm
    · skip
      refine V.iconst g0 d_X6_stay_22 ?_
      refine V.iret g d_X6_stay_23 (Nat.zero_le _) (Nat.zero_le _) ⟨congrArg (fun z => some (Value.int (iI z))) ?_, rfl, rfl⟩
      exact (if_pos (fun q => c_19 q.2)).symm

theorem d_X6_wayTo_0 : Dc cX6_wayTo 0 1 1 (.aload_n 0) := ⟨by decide +kernel, rfl⟩
theorem d_X6_wayTo_1 : Dc cX6_wayTo 1 3 4 (.getfield 12) := ⟨by decide +kernel, rfl⟩
theorem d_X6_wayTo_4 : Dc cX6_wayTo 4 1 5 (.iload_n 1) := ⟨by decide +kernel, rfl⟩
theorem d_X6_wayTo_5 : Dc cX6_wayTo 5 3 8 (.invokevirtual 106) := ⟨by decide +kernel, rfl⟩
theorem d_X6_wayTo_8 : Dc cX6_wayTo 8 1 9 (.astore_n 3) := ⟨by decide +kernel, rfl⟩
theorem d_X6_wayTo_9 : Dc cX6_wayTo 9 1 10 (.aload_n 3) := ⟨by decide +kernel, rfl⟩
theorem d_X6_wayTo_10 : Dj cX6_wayTo 10 13 20 .ifnull := ⟨10, by decide +kernel, rfl, by decide⟩
theorem d_X6_wayTo_13 : Dc cX6_wayTo 13 1 14 (.iload_n 2) := ⟨by decide +kernel, rfl⟩
theorem d_X6_wayTo_14 : Dc cX6_wayTo 14 3 17 (.invokestatic 161) := ⟨by decide +kernel, rfl⟩
theorem d_X6_wayTo_17 : Dj cX6_wayTo 17 20 22 (.ifCond .ne) := ⟨5, by decide +kernel, rfl, by decide⟩
theorem d_X6_wayTo_20 : Dc cX6_wayTo 20 1 21 (.iconst (-1)) := ⟨by decide +kernel, rfl⟩
theorem d_X6_wayTo_21 : decode cX6_wayTo 21 = .ok (.ireturn, 1) := by decide +kernel
theorem d_X6_wayTo_22 : Dc cX6_wayTo 22 1 23 (.aload_n 0) := ⟨by decide +kernel, rfl⟩
theorem d_X6_wayTo_23 : Dc cX6_wayTo 23 3 26 (.getfield 12) := ⟨by decide +kernel, rfl⟩
theorem d_X6_wayTo_26 : Dc cX6_wayTo 26 1 27 (.aload_n 3) := ⟨by decide +kernel, rfl⟩
theorem d_X6_wayTo_27 : Dc cX6_wayTo 27 1 28 (.iload_n 2) := ⟨by decide +kernel, rfl⟩
theorem d_X6_wayTo_28 : Dc cX6_wayTo 28 3 31 (.invokevirtual 211) := ⟨by decide +kernel, rfl⟩
theorem d_X6_wayTo_31 : decode cX6_wayTo 31 = .ok (.ireturn, 1) := by decide +kernel
set_option maxHeartbeats 4000000 in
set_option maxRecDepth 20000 in
theorem c_X6_wayTo {E : Ev} {n : Nat} {M : Mem} {w o : Nat} {s : Int → Int} {fs : List Value} (h0 : M o = .inr (6, .ref (o + 1) :: fs)) (hN : SR E M w n (o + 1) s) {p c : Int} (h1 : rg p) (h2 : rg c) : MT E yX6_wayTo cX6_wayTo 4 (some .int) 6 0 0 [.ref o, .int (iI p), .int (iI c)] n M (PF (some (.int (iI (q_wayTo s p c)))) n (M)) := by
  refine MT.of (by decide) rfl (Nat.le_of_ble_eq_true rfl) ?_
  intro X g
  have g0 := g.1
  show V E X 0 0 n M 0 [some (.ref o), some (.int (iI p)), some (.int (iI c)), none] []
  obtain ⟨C, hS, hR, hv, hO⟩ := id hN
  have hR2 := hR
  obtain ⟨⟨ed, ei, ef⟩, hRow, hH⟩ := hR2
  have hm := hO.many
  have hdy := hO.day
  have a0 := hS.h0
  have a1 := hS.h1
  refine V.al0 g0 d_X6_wayTo_0 ?_
  refine V.getf g0 d_X6_wayTo_1 fl_X6_12 (by assumption) (by rfl) ?_
  refine V.il1 g0 d_X6_wayTo_4 ?_
  refine V.callVp g0 (c_X2_holderOf hS hm h1) ky_X2_holderOf ki_X2_holderOf ks2_X2_holderOf lk_X6_106 (by assumption) rfl rfl (Nat.le_of_ble_eq_true rfl) ⟨Nat.zero_le _, Nat.zero_le _⟩ rfl rfl (Nat.le_of_ble_eq_true rfl) d_X6_wayTo_5 ?_
  rcases holQ_c (o + 1) (s 619) p with ⟨hp, he⟩ | ⟨i, hi, hp, he⟩
  · skip
    rw [he, show va_rf none = Value.null from rfl]
    refine V.asN3 g0 d_X6_wayTo_8 ?_
    refine V.alN3 g0 d_X6_wayTo_9 ?_
    refine V.ifnullN g0 d_X6_wayTo_10 ?_
    refine V.iconst g0 d_X6_wayTo_20 ?_
    refine V.iret g d_X6_wayTo_21 (Nat.zero_le _) (Nat.zero_le _) ⟨congrArg (fun z => some (Value.int (iI z))) ?_, rfl, rfl⟩
    exact (if_pos (fun q => hp q.1)).symm
  · skip
    subst hp
    rw [he, show va_rf (some (hbs (o + 1) i)) = Value.ref (hbs (o + 1) i) from rfl]
    have hho := hS.ho (i := i) (by omega)
    have hrow := hRow i (by omega)
    obtain ⟨hHR, hVR⟩ := hH i (by omega)
    have hk := hO.at (p := (i : Int)) (by omega) (by omega)
    have g0a := hho.h0
    have g1a := hho.h1
    have g4a := hho.h4
    have g5a := hho.h5
    have hjO := HolR.jOk hHR hk
    have hbO := HolR.bOk hHR hk
    have e8 : hcb (C i) = s (103 * (i : Int) + 8) := hHR.1.2.2.2.2
    have e8b : (C i).2.2.2.2.2.2.2.2.1 = s (103 * (i : Int) + 8) := hHR.1.2.2.2.2
    have hb8 := hk.stm
    refine V.as3 g0 d_X6_wayTo_8 ?_
    refine V.al3 g0 d_X6_wayTo_9 ?_
    refine V.ifnull g0 d_X6_wayTo_10 ?_
    refine V.il2 g0 d_X6_wayTo_13 ?_
    refine V.callSp g0 (c_X6_isCountry h2) ky_X6_isCountry ks_X6_isCountry lk_X6_161 (Nat.le_of_ble_eq_true rfl) ⟨Nat.zero_le _, Nat.zero_le _⟩ rfl rfl (Nat.le_of_ble_eq_true rfl) d_X6_wayTo_14 ?_
    refine V.ifneB g0 d_X6_wayTo_17 (fun c_17 => ?_) (fun c_17 => ?_)
    · skip
      obtain ⟨k, rfl⟩ : ∃ k : Nat, c = k := ⟨c.toNat, by omega⟩
      refine V.al0 g0 d_X6_wayTo_22 ?_
      refine V.getf g0 d_X6_wayTo_23 fl_X6_12 (by assumption) (by rfl) ?_
      refine V.al3 g0 d_X6_wayTo_26 ?_
      refine V.il2 g0 d_X6_wayTo_27 ?_
      refine V.callVp g0 (c_X2_fewestCrossings hS hR hO hi (by omega)) ky_X2_fewestCrossings ki_X2_fewestCrossings ks2_X2_fewestCrossings lk_X6_211 (by assumption) rfl rfl (Nat.le_of_ble_eq_true rfl) ⟨Nat.zero_le _, Nat.zero_le _⟩ rfl rfl (Nat.le_of_ble_eq_true rfl) d_X6_wayTo_28 ?_
      refine V.iret g d_X6_wayTo_31 (Nat.zero_le _) (Nat.zero_le _) ⟨congrArg (fun z => some (Value.int (iI z))) ?_, rfl, rfl⟩
      rw [wayG_e CloR_of]; exact (if_neg (fun q => q (show areT s (i : Int) (k : Int) from ⟨by omega, c_17⟩))).symm
    · skip
      refine V.iconst g0 d_X6_wayTo_20 ?_
      refine V.iret g d_X6_wayTo_21 (Nat.zero_le _) (Nat.zero_le _) ⟨congrArg (fun z => some (Value.int (iI z))) ?_, rfl, rfl⟩
      exact (if_pos (fun q => c_17 q.2)).symm

theorem d_X6_daysLeft_0 : Dc cX6_daysLeft 0 1 1 (.aload_n 0) := ⟨by decide +kernel, rfl⟩
theorem d_X6_daysLeft_1 : Dc cX6_daysLeft 1 3 4 (.getfield 12) := ⟨by decide +kernel, rfl⟩
theorem d_X6_daysLeft_4 : Dc cX6_daysLeft 4 1 5 (.iload_n 1) := ⟨by decide +kernel, rfl⟩
theorem d_X6_daysLeft_5 : Dc cX6_daysLeft 5 3 8 (.invokevirtual 106) := ⟨by decide +kernel, rfl⟩
theorem d_X6_daysLeft_8 : Dc cX6_daysLeft 8 1 9 (.astore_n 3) := ⟨by decide +kernel, rfl⟩
theorem d_X6_daysLeft_9 : Dc cX6_daysLeft 9 1 10 (.aload_n 3) := ⟨by decide +kernel, rfl⟩
theorem d_X6_daysLeft_10 : Dj cX6_daysLeft 10 13 20 .ifnull := ⟨10, by decide +kernel, rfl, by decide⟩
theorem d_X6_daysLeft_13 : Dc cX6_daysLeft 13 1 14 (.iload_n 2) := ⟨by decide +kernel, rfl⟩
theorem d_X6_daysLeft_14 : Dc cX6_daysLeft 14 3 17 (.invokestatic 161) := ⟨by decide +kernel, rfl⟩
theorem d_X6_daysLeft_17 : Dj cX6_daysLeft 17 20 22 (.ifCond .ne) := ⟨5, by decide +kernel, rfl, by decide⟩
theorem d_X6_daysLeft_20 : Dc cX6_daysLeft 20 1 21 (.iconst (-1)) := ⟨by decide +kernel, rfl⟩
theorem d_X6_daysLeft_21 : decode cX6_daysLeft 21 = .ok (.ireturn, 1) := by decide +kernel
theorem d_X6_daysLeft_22 : Dc cX6_daysLeft 22 1 23 (.aload_n 3) := ⟨by decide +kernel, rfl⟩
theorem d_X6_daysLeft_23 : Dc cX6_daysLeft 23 1 24 (.iload_n 2) := ⟨by decide +kernel, rfl⟩
theorem d_X6_daysLeft_24 : Dc cX6_daysLeft 24 3 27 (.invokevirtual 164) := ⟨by decide +kernel, rfl⟩
theorem d_X6_daysLeft_27 : Dc cX6_daysLeft 27 2 29 (.astore 4) := ⟨by decide +kernel, rfl⟩
theorem d_X6_daysLeft_29 : Dc cX6_daysLeft 29 2 31 (.aload 4) := ⟨by decide +kernel, rfl⟩
theorem d_X6_daysLeft_31 : Dj cX6_daysLeft 31 34 37 .ifnonnull := ⟨6, by decide +kernel, rfl, by decide⟩
theorem d_X6_daysLeft_34 : Dc cX6_daysLeft 34 2 36 (.bipush (-5)) := ⟨by decide +kernel, rfl⟩
theorem d_X6_daysLeft_36 : decode cX6_daysLeft 36 = .ok (.ireturn, 1) := by decide +kernel
theorem d_X6_daysLeft_37 : Dc cX6_daysLeft 37 2 39 (.aload 4) := ⟨by decide +kernel, rfl⟩
theorem d_X6_daysLeft_39 : Dc cX6_daysLeft 39 3 42 (.getfield 176) := ⟨by decide +kernel, rfl⟩
theorem d_X6_daysLeft_42 : Dc cX6_daysLeft 42 1 43 (.aload_n 3) := ⟨by decide +kernel, rfl⟩
theorem d_X6_daysLeft_43 : Dc cX6_daysLeft 43 2 45 (.aload 4) := ⟨by decide +kernel, rfl⟩
theorem d_X6_daysLeft_45 : Dc cX6_daysLeft 45 1 46 (.aload_n 0) := ⟨by decide +kernel, rfl⟩
theorem d_X6_daysLeft_46 : Dc cX6_daysLeft 46 3 49 (.getfield 12) := ⟨by decide +kernel, rfl⟩
theorem d_X6_daysLeft_49 : Dc cX6_daysLeft 49 3 52 (.getfield 103) := ⟨by decide +kernel, rfl⟩
theorem d_X6_daysLeft_52 : Dc cX6_daysLeft 52 3 55 (.invokevirtual 179) := ⟨by decide +kernel, rfl⟩
theorem d_X6_daysLeft_55 : Dc cX6_daysLeft 55 1 56 .isub := ⟨by decide +kernel, rfl⟩
theorem d_X6_daysLeft_56 : Dc cX6_daysLeft 56 1 57 (.iconst 0) := ⟨by decide +kernel, rfl⟩
theorem d_X6_daysLeft_57 : Dc cX6_daysLeft 57 3 60 (.invokestatic 215) := ⟨by decide +kernel, rfl⟩
theorem d_X6_daysLeft_60 : Dc cX6_daysLeft 60 2 62 (.istore 5) := ⟨by decide +kernel, rfl⟩
theorem d_X6_daysLeft_62 : Dc cX6_daysLeft 62 2 64 (.aload 4) := ⟨by decide +kernel, rfl⟩
theorem d_X6_daysLeft_64 : Dc cX6_daysLeft 64 3 67 (.getfield 173) := ⟨by decide +kernel, rfl⟩
theorem d_X6_daysLeft_67 : Dc cX6_daysLeft 67 2 69 (.aload 4) := ⟨by decide +kernel, rfl⟩
theorem d_X6_daysLeft_69 : Dc cX6_daysLeft 69 3 72 (.getfield 168) := ⟨by decide +kernel, rfl⟩
theorem d_X6_daysLeft_72 : Dc cX6_daysLeft 72 1 73 (.aload_n 0) := ⟨by decide +kernel, rfl⟩
theorem d_X6_daysLeft_73 : Dc cX6_daysLeft 73 3 76 (.getfield 12) := ⟨by decide +kernel, rfl⟩
theorem d_X6_daysLeft_76 : Dc cX6_daysLeft 76 3 79 (.getfield 103) := ⟨by decide +kernel, rfl⟩
theorem d_X6_daysLeft_79 : Dc cX6_daysLeft 79 3 82 (.invokestatic 215) := ⟨by decide +kernel, rfl⟩
theorem d_X6_daysLeft_82 : Dc cX6_daysLeft 82 1 83 .isub := ⟨by decide +kernel, rfl⟩
theorem d_X6_daysLeft_83 : Dc cX6_daysLeft 83 1 84 (.iconst 1) := ⟨by decide +kernel, rfl⟩
theorem d_X6_daysLeft_84 : Dc cX6_daysLeft 84 1 85 .iadd := ⟨by decide +kernel, rfl⟩
theorem d_X6_daysLeft_85 : Dc cX6_daysLeft 85 1 86 (.iconst 0) := ⟨by decide +kernel, rfl⟩
theorem d_X6_daysLeft_86 : Dc cX6_daysLeft 86 3 89 (.invokestatic 215) := ⟨by decide +kernel, rfl⟩
theorem d_X6_daysLeft_89 : Dc cX6_daysLeft 89 2 91 (.istore 6) := ⟨by decide +kernel, rfl⟩
theorem d_X6_daysLeft_91 : Dc cX6_daysLeft 91 2 93 (.iload 5) := ⟨by decide +kernel, rfl⟩
theorem d_X6_daysLeft_93 : Dc cX6_daysLeft 93 2 95 (.iload 6) := ⟨by decide +kernel, rfl⟩
theorem d_X6_daysLeft_95 : Dc cX6_daysLeft 95 3 98 (.invokestatic 201) := ⟨by decide +kernel, rfl⟩
theorem d_X6_daysLeft_98 : decode cX6_daysLeft 98 = .ok (.ireturn, 1) := by decide +kernel
set_option maxHeartbeats 4000000 in
set_option maxRecDepth 20000 in
theorem c_X6_daysLeft {E : Ev} {n : Nat} {M : Mem} {w o : Nat} {s : Int → Int} {fs : List Value} (h0 : M o = .inr (6, .ref (o + 1) :: fs)) (hN : SR E M w n (o + 1) s) {p c : Int} (h1 : rg p) (h2 : rg c) : MT E yX6_daysLeft cX6_daysLeft 7 (some .int) 2 0 0 [.ref o, .int (iI p), .int (iI c)] n M (PF (some (.int (iI (q_daysLeft s p c)))) n (M)) := by
  refine MT.of (by decide) rfl (Nat.le_of_ble_eq_true rfl) ?_
  intro X g
  have g0 := g.1
  show V E X 0 0 n M 0 [some (.ref o), some (.int (iI p)), some (.int (iI c)), none, none, none, none] []
  obtain ⟨C, hS, hR, hv, hO⟩ := id hN
  have hR2 := hR
  obtain ⟨⟨ed, ei, ef⟩, hRow, hH⟩ := hR2
  have hm := hO.many
  have hdy := hO.day
  have a0 := hS.h0
  have a1 := hS.h1
  refine V.al0 g0 d_X6_daysLeft_0 ?_
  refine V.getf g0 d_X6_daysLeft_1 fl_X6_12 (by assumption) (by rfl) ?_
  refine V.il1 g0 d_X6_daysLeft_4 ?_
  refine V.callVp g0 (c_X2_holderOf hS hm h1) ky_X2_holderOf ki_X2_holderOf ks2_X2_holderOf lk_X6_106 (by assumption) rfl rfl (Nat.le_of_ble_eq_true rfl) ⟨Nat.zero_le _, Nat.zero_le _⟩ rfl rfl (Nat.le_of_ble_eq_true rfl) d_X6_daysLeft_5 ?_
  rcases holQ_c (o + 1) (s 619) p with ⟨hp, he⟩ | ⟨i, hi, hp, he⟩
  · skip
    rw [he, show va_rf none = Value.null from rfl]
    refine V.asN3 g0 d_X6_daysLeft_8 ?_
    refine V.alN3 g0 d_X6_daysLeft_9 ?_
    refine V.ifnullN g0 d_X6_daysLeft_10 ?_
    refine V.iconst g0 d_X6_daysLeft_20 ?_
    refine V.iret g d_X6_daysLeft_21 (Nat.zero_le _) (Nat.zero_le _) ⟨congrArg (fun z => some (Value.int (iI z))) ?_, rfl, rfl⟩
    exact (if_pos (fun q => hp q.1)).symm
  · skip
    subst hp
    rw [he, show va_rf (some (hbs (o + 1) i)) = Value.ref (hbs (o + 1) i) from rfl]
    have hho := hS.ho (i := i) (by omega)
    have hrow := hRow i (by omega)
    obtain ⟨hHR, hVR⟩ := hH i (by omega)
    have hk := hO.at (p := (i : Int)) (by omega) (by omega)
    have g0a := hho.h0
    have g1a := hho.h1
    have g4a := hho.h4
    have g5a := hho.h5
    have hjO := HolR.jOk hHR hk
    have hbO := HolR.bOk hHR hk
    have e8 : hcb (C i) = s (103 * (i : Int) + 8) := hHR.1.2.2.2.2
    have e8b : (C i).2.2.2.2.2.2.2.2.1 = s (103 * (i : Int) + 8) := hHR.1.2.2.2.2
    have hb8 := hk.stm
    refine V.as3 g0 d_X6_daysLeft_8 ?_
    refine V.al3 g0 d_X6_daysLeft_9 ?_
    refine V.ifnull g0 d_X6_daysLeft_10 ?_
    refine V.il2 g0 d_X6_daysLeft_13 ?_
    refine V.callSp g0 (c_X6_isCountry h2) ky_X6_isCountry ks_X6_isCountry lk_X6_161 (Nat.le_of_ble_eq_true rfl) ⟨Nat.zero_le _, Nat.zero_le _⟩ rfl rfl (Nat.le_of_ble_eq_true rfl) d_X6_daysLeft_14 ?_
    refine V.ifneB g0 d_X6_daysLeft_17 (fun c_17 => ?_) (fun c_17 => ?_)
    · skip
      refine V.al3 g0 d_X6_daysLeft_22 ?_
      refine V.il2 g0 d_X6_daysLeft_23 ?_
      refine V.callVp g0 (c_X1_visaFor hho (by omega)) ky_X1_visaFor ki_X1_visaFor ks2_X1_visaFor lk_X6_164 (by assumption) rfl rfl (Nat.le_of_ble_eq_true rfl) ⟨Nat.zero_le _, Nat.zero_le _⟩ rfl rfl (Nat.le_of_ble_eq_true rfl) d_X6_daysLeft_24 ?_
      have hvv := hVR c (by omega) (by omega)
      have hvb := hk.vis (c := c) (by omega) (by omega)
      have hA : areT s (i : Int) c := ⟨by omega, c_17⟩
      rcases hvv with ⟨hev, hn⟩ | ⟨a, hev, ha, hn⟩
      · skip
        rw [show (C i).2.2.2.2.2.2.2.2.2.2 c = none from hev, show va_rf none = Value.null from rfl]
        refine V.asN4 g0 d_X6_daysLeft_27 ?_
        refine V.alN4 g0 d_X6_daysLeft_29 ?_
        refine V.ifnonnullN g0 d_X6_daysLeft_31 ?_
        refine V.bipush g0 d_X6_daysLeft_34 (by decide) ?_
        refine V.iret g d_X6_daysLeft_36 (Nat.zero_le _) (Nat.zero_le _) ⟨congrArg (fun z => some (Value.int (iI z))) ?_, rfl, rfl⟩
        exact ((if_neg (fun q => q hA)).trans (if_pos hn)).symm
      · skip
        rw [show (C i).2.2.2.2.2.2.2.2.2.2 c = some a from hev, show va_rf (some a) = Value.ref a from rfl]
        have ha2 := ha
        unfold viC at ha2
        refine V.as4 g0 d_X6_daysLeft_27 ?_
        refine V.al4 g0 d_X6_daysLeft_29 ?_
        refine V.ifnonnull g0 d_X6_daysLeft_31 ?_
        refine V.al4 g0 d_X6_daysLeft_37 ?_
        refine V.getf g0 d_X6_daysLeft_39 fl_X6_176 (by assumption) (by rfl) ?_
        refine V.al3 g0 d_X6_daysLeft_42 ?_
        refine V.al4 g0 d_X6_daysLeft_43 ?_
        refine V.al0 g0 d_X6_daysLeft_45 ?_
        refine V.getf g0 d_X6_daysLeft_46 fl_X6_12 (by assumption) (by rfl) ?_
        refine V.getf g0 d_X6_daysLeft_49 fl_X6_103 (by assumption) (by rfl) ?_
        refine V.callVp g0 (c_X1_usedDays hho hHR hk ha (by omega) hvb.1 hvb.2.1 (by omega)) ky_X1_usedDays ki_X1_usedDays ks2_X1_usedDays lk_X6_179 (by assumption) rfl rfl (Nat.le_of_ble_eq_true rfl) ⟨Nat.zero_le _, Nat.zero_le _⟩ rfl rfl (Nat.le_of_ble_eq_true rfl) d_X6_daysLeft_52 ?_
        rw [show toldDays s (i : Int) c (vOf s (i : Int) c 0) (vOf s (i : Int) c 1) (s 618) = usedOn s (i : Int) c (s 618) from rfl]
        have hub := usedOn_b2 hk (c := c) (by omega) (by omega) (s 618)
        refine V.isub g0 d_X6_daysLeft_55 ?_
        refine V.iconst g0 d_X6_daysLeft_56 ?_
        refine V.callSp g0 (c_J9_max_7cf53 (by constructor <;> omega) (by decide)) ky_J9_max_7cf53 ks_J9_max_7cf53 lk_X6_215 (Nat.le_of_ble_eq_true rfl) ⟨Nat.zero_le _, Nat.zero_le _⟩ rfl rfl (Nat.le_of_ble_eq_true rfl) d_X6_daysLeft_57 ?_
        refine V.is5 g0 d_X6_daysLeft_60 ?_
        refine V.al4 g0 d_X6_daysLeft_62 ?_
        refine V.getf g0 d_X6_daysLeft_64 fl_X6_173 (by assumption) (by rfl) ?_
        refine V.al4 g0 d_X6_daysLeft_67 ?_
        refine V.getf g0 d_X6_daysLeft_69 fl_X6_168 (by assumption) (by rfl) ?_
        refine V.al0 g0 d_X6_daysLeft_72 ?_
        refine V.getf g0 d_X6_daysLeft_73 fl_X6_12 (by assumption) (by rfl) ?_
        refine V.getf g0 d_X6_daysLeft_76 fl_X6_103 (by assumption) (by rfl) ?_
        refine V.callSp g0 (c_J9_max_7cf53 (by constructor <;> omega) (by constructor <;> omega)) ky_J9_max_7cf53 ks_J9_max_7cf53 lk_X6_215 (Nat.le_of_ble_eq_true rfl) ⟨Nat.zero_le _, Nat.zero_le _⟩ rfl rfl (Nat.le_of_ble_eq_true rfl) d_X6_daysLeft_79 ?_
        refine V.isub g0 d_X6_daysLeft_82 ?_
        refine V.iconst g0 d_X6_daysLeft_83 ?_
        refine V.iadd g0 d_X6_daysLeft_84 ?_
        refine V.iconst g0 d_X6_daysLeft_85 ?_
        refine V.callSp g0 (c_J9_max_7cf53 (by constructor <;> omega) (by decide)) ky_J9_max_7cf53 ks_J9_max_7cf53 lk_X6_215 (Nat.le_of_ble_eq_true rfl) ⟨Nat.zero_le _, Nat.zero_le _⟩ rfl rfl (Nat.le_of_ble_eq_true rfl) d_X6_daysLeft_86 ?_
        refine V.is6 g0 d_X6_daysLeft_89 ?_
        refine V.il5 g0 d_X6_daysLeft_91 ?_
        refine V.il6 g0 d_X6_daysLeft_93 ?_
        refine V.callSp g0 (c_J9_min_7cf53 (by constructor <;> omega) (by constructor <;> omega)) ky_J9_min_7cf53 ks_J9_min_7cf53 lk_X6_201 (Nat.le_of_ble_eq_true rfl) ⟨Nat.zero_le _, Nat.zero_le _⟩ rfl rfl (Nat.le_of_ble_eq_true rfl) d_X6_daysLeft_95 ?_
        refine V.iret g d_X6_daysLeft_98 (Nat.zero_le _) (Nat.zero_le _) ⟨congrArg (fun z => some (Value.int (iI z))) ?_, rfl, rfl⟩
        rw [show q_daysLeft s (i : Int) c = max 0 (min (vOf s (i : Int) c 2 - usedOn s (i : Int) c (s 618)) (vOf s (i : Int) c 1 - max (vOf s (i : Int) c 0) (s 618) + 1)) from (if_neg (fun q => q hA)).trans (if_neg (fun q => q hn))]; omega
    · skip
      refine V.iconst g0 d_X6_daysLeft_20 ?_
      refine V.iret g d_X6_daysLeft_21 (Nat.zero_le _) (Nat.zero_le _) ⟨congrArg (fun z => some (Value.int (iI z))) ?_, rfl, rfl⟩
      exact (if_pos (fun q => c_17 q.2)).symm

theorem d_X6_mistold_0 : Dc cX6_mistold 0 1 1 (.iconst 0) := ⟨by decide +kernel, rfl⟩
theorem d_X6_mistold_1 : Dc cX6_mistold 1 1 2 (.istore_n 1) := ⟨by decide +kernel, rfl⟩
theorem d_X6_mistold_2 : Dc cX6_mistold 2 1 3 (.iconst 0) := ⟨by decide +kernel, rfl⟩
theorem d_X6_mistold_3 : Dc cX6_mistold 3 1 4 (.istore_n 2) := ⟨by decide +kernel, rfl⟩
theorem d_X6_mistold_4 : Dc cX6_mistold 4 1 5 (.iload_n 2) := ⟨by decide +kernel, rfl⟩
theorem d_X6_mistold_5 : Dc cX6_mistold 5 1 6 (.aload_n 0) := ⟨by decide +kernel, rfl⟩
theorem d_X6_mistold_6 : Dc cX6_mistold 6 3 9 (.getfield 12) := ⟨by decide +kernel, rfl⟩
theorem d_X6_mistold_9 : Dc cX6_mistold 9 3 12 (.getfield 218) := ⟨by decide +kernel, rfl⟩
theorem d_X6_mistold_12 : Dj cX6_mistold 12 15 48 (.if_icmp .ge) := ⟨36, by decide +kernel, rfl, by decide⟩
theorem d_X6_mistold_15 : Dc cX6_mistold 15 1 16 (.aload_n 0) := ⟨by decide +kernel, rfl⟩
theorem d_X6_mistold_16 : Dc cX6_mistold 16 3 19 (.getfield 12) := ⟨by decide +kernel, rfl⟩
theorem d_X6_mistold_19 : Dc cX6_mistold 19 3 22 (.getfield 221) := ⟨by decide +kernel, rfl⟩
theorem d_X6_mistold_22 : Dc cX6_mistold 22 1 23 (.iload_n 2) := ⟨by decide +kernel, rfl⟩
theorem d_X6_mistold_23 : Dc cX6_mistold 23 1 24 .aaload := ⟨by decide +kernel, rfl⟩
theorem d_X6_mistold_24 : Dc cX6_mistold 24 1 25 (.astore_n 3) := ⟨by decide +kernel, rfl⟩
theorem d_X6_mistold_25 : Dc cX6_mistold 25 1 26 (.aload_n 3) := ⟨by decide +kernel, rfl⟩
theorem d_X6_mistold_26 : Dc cX6_mistold 26 3 29 (.invokevirtual 118) := ⟨by decide +kernel, rfl⟩
theorem d_X6_mistold_29 : Dc cX6_mistold 29 1 30 (.aload_n 3) := ⟨by decide +kernel, rfl⟩
theorem d_X6_mistold_30 : Dc cX6_mistold 30 3 33 (.invokevirtual 115) := ⟨by decide +kernel, rfl⟩
theorem d_X6_mistold_33 : Dj cX6_mistold 33 36 42 (.if_icmp .eq) := ⟨9, by decide +kernel, rfl, by decide⟩
theorem d_X6_mistold_36 : Dc cX6_mistold 36 1 37 (.iload_n 1) := ⟨by decide +kernel, rfl⟩
theorem d_X6_mistold_37 : Dc cX6_mistold 37 1 38 (.iconst 1) := ⟨by decide +kernel, rfl⟩
theorem d_X6_mistold_38 : Dc cX6_mistold 38 1 39 (.iload_n 2) := ⟨by decide +kernel, rfl⟩
theorem d_X6_mistold_39 : Dc cX6_mistold 39 1 40 .ishl := ⟨by decide +kernel, rfl⟩
theorem d_X6_mistold_40 : Dc cX6_mistold 40 1 41 .ior := ⟨by decide +kernel, rfl⟩
theorem d_X6_mistold_41 : Dc cX6_mistold 41 1 42 (.istore_n 1) := ⟨by decide +kernel, rfl⟩
theorem d_X6_mistold_42 : Dc cX6_mistold 42 3 45 (.iinc 2 1) := ⟨by decide +kernel, rfl⟩
theorem d_X6_mistold_45 : Dj cX6_mistold 45 48 4 .goto := ⟨(-41), by decide +kernel, rfl, by decide⟩
theorem d_X6_mistold_48 : Dc cX6_mistold 48 1 49 (.iload_n 1) := ⟨by decide +kernel, rfl⟩
theorem d_X6_mistold_49 : decode cX6_mistold 49 = .ok (.ireturn, 1) := by decide +kernel
set_option maxHeartbeats 4000000 in
set_option maxRecDepth 20000 in
theorem c_X6_mistold {E : Ev} {n : Nat} {M : Mem} {w o : Nat} {s : Int → Int} {fs : List Value} (h0 : M o = .inr (6, .ref (o + 1) :: fs)) (hN : SR E M w n (o + 1) s) : MT E yX6_mistold cX6_mistold 4 (some .int) 2 0 0 [.ref o] n M (PF (some (.int (iI (q_mistold s)))) n (M)) := by
  refine MT.of (by decide) rfl (Nat.le_of_ble_eq_true rfl) ?_
  intro X g
  have g0 := g.1
  show V E X 0 0 n M 0 [some (.ref o), none, none, none] []
  obtain ⟨C, hS, hR, hv, hO⟩ := id hN
  have hR2 := hR
  obtain ⟨⟨ed, ei, ef⟩, hRow, hH⟩ := hR2
  have hm := hO.many
  have hdy := hO.day
  have a0 := hS.h0
  have a1 := hS.h1
  refine V.iconst g0 d_X6_mistold_0 ?_
  refine V.is1 g0 d_X6_mistold_1 ?_
  refine V.iconst g0 d_X6_mistold_2 ?_
  refine V.is2 g0 d_X6_mistold_3 ?_
  have LP : ∀ (f i : Nat), i + f = (s 619).toNat → V E X 0 0 n M 4 [some (.ref o), some (.int (iI ((misN s i : Nat) : Int))), some (.int (iI (i : Int))), none] [] := by
    intro f
    induction f using Nat.strongRecOn with
    | _ f ih =>
    intro i hf
    have hmb := misN_b (s := s) i (by omega)
    refine V.il2 g0 d_X6_mistold_4 ?_
    refine V.al0 g0 d_X6_mistold_5 ?_
    refine V.getf g0 d_X6_mistold_6 fl_X6_12 (by assumption) (by rfl) ?_
    refine V.getf g0 d_X6_mistold_9 fl_X6_218 (by assumption) (by rfl) ?_
    refine V.icmpge g0 d_X6_mistold_12 (by omega) (fun c_12 => ?_) (fun c_12 => ?_)
    · skip
      refine V.il1 g0 d_X6_mistold_48 ?_
      refine V.iret g d_X6_mistold_49 (Nat.zero_le _) (Nat.zero_le _) ⟨congrArg (fun z => some (Value.int (iI z))) ?_, rfl, rfl⟩
      rw [show i = (s 619).toNat by omega]; rfl
    · skip
      have hi : (i : Int) < s 619 := by omega
      have hho := hS.ho (i := i) (by omega)
      have hrow := hRow i (by omega)
      obtain ⟨hHR, hVR⟩ := hH i (by omega)
      have hk := hO.at (p := (i : Int)) (by omega) (by omega)
      have g0a := hho.h0
      have g1a := hho.h1
      have g4a := hho.h4
      have g5a := hho.h5
      have hjO := HolR.jOk hHR hk
      have hbO := HolR.bOk hHR hk
      have e8 : hcb (C i) = s (103 * (i : Int) + 8) := hHR.1.2.2.2.2
      have e8b : (C i).2.2.2.2.2.2.2.2.1 = s (103 * (i : Int) + 8) := hHR.1.2.2.2.2
      have hb8 := hk.stm
      have hbp := bP_b hk (s (103 * (i : Int) + 8))
      have hwr := hk.whr
      refine V.al0 g0 d_X6_mistold_15 ?_
      refine V.getf g0 d_X6_mistold_16 fl_X6_12 (by assumption) (by rfl) ?_
      refine V.getf g0 d_X6_mistold_19 fl_X6_221 (by assumption) (by rfl) ?_
      refine V.il2 g0 d_X6_mistold_22 ?_
      refine V.aald g0 d_X6_mistold_23 (by assumption) rfl (by omega) (by decide) ?_
      rw [show hsF (o + 1) (i : Int) = some (hbs (o + 1) i) from rfl, show va_rf (some (hbs (o + 1) i)) = Value.ref (hbs (o + 1) i) from rfl]
      refine V.as3 g0 d_X6_mistold_24 ?_
      refine V.al3 g0 d_X6_mistold_25 ?_
      refine V.callVp g0 (c_X1_toldPlace hho hHR hk) ky_X1_toldPlace ki_X1_toldPlace ks2_X1_toldPlace lk_X6_118 (by assumption) rfl rfl (Nat.le_of_ble_eq_true rfl) ⟨Nat.zero_le _, Nat.zero_le _⟩ rfl rfl (Nat.le_of_ble_eq_true rfl) d_X6_mistold_26 ?_
      refine V.al3 g0 d_X6_mistold_29 ?_
      refine V.callVp g0 (c_X1_placeS hho hHR hk) ky_X1_place ki_X1_place ks2_X1_place lk_X6_115 (by assumption) rfl rfl (Nat.le_of_ble_eq_true rfl) ⟨Nat.zero_le _, Nat.zero_le _⟩ rfl rfl (Nat.le_of_ble_eq_true rfl) d_X6_mistold_30 ?_
      refine V.icmpeq g0 d_X6_mistold_33 (by omega) (fun c_33 => ?_) (fun c_33 => ?_)
      · skip
        refine V.inc2 g0 d_X6_mistold_42 ?_
        refine V.goto g0 d_X6_mistold_45 ?_
        refine V.weak2 (V.eqL ?_ (ih (f - 1) (by omega) (i + 1) (by omega))) (lcLe_s (lcLe_s (lcLe_s (lcLe_f lcLe_n))))
        rw [show misN s (i + 1) = misN s i from by rw [misN, if_neg (fun q => q c_33), Nat.or_zero]]; rfl
      · skip
        refine V.il1 g0 d_X6_mistold_36 ?_
        refine V.iconst g0 d_X6_mistold_37 ?_
        refine V.il2 g0 d_X6_mistold_38 ?_
        refine V.ishl g0 d_X6_mistold_39 (iI_shl1n (by omega)) ?_
        refine V.ior g0 d_X6_mistold_40 iI_or ?_
        refine V.is1 g0 d_X6_mistold_41 ?_
        refine V.inc2 g0 d_X6_mistold_42 ?_
        refine V.goto g0 d_X6_mistold_45 ?_
        refine V.weak2 (V.eqL ?_ (ih (f - 1) (by omega) (i + 1) (by omega))) (lcLe_s (lcLe_s (lcLe_s (lcLe_f lcLe_n))))
        rw [show misN s (i + 1) = misN s i ||| 2 ^ i from by rw [misN, if_pos c_33]]; rfl
  exact LP (s 619).toNat 0 (by omega)

theorem d_X6_holders_0 : Dc cX6_holders 0 1 1 (.iload_n 1) := ⟨by decide +kernel, rfl⟩
theorem d_X6_holders_1 : Dc cX6_holders 1 3 4 (.invokestatic 161) := ⟨by decide +kernel, rfl⟩
theorem d_X6_holders_4 : Dj cX6_holders 4 7 9 (.ifCond .ne) := ⟨5, by decide +kernel, rfl, by decide⟩
theorem d_X6_holders_7 : Dc cX6_holders 7 1 8 (.iconst (-1)) := ⟨by decide +kernel, rfl⟩
theorem d_X6_holders_8 : decode cX6_holders 8 = .ok (.ireturn, 1) := by decide +kernel
theorem d_X6_holders_9 : Dc cX6_holders 9 1 10 (.iconst 0) := ⟨by decide +kernel, rfl⟩
theorem d_X6_holders_10 : Dc cX6_holders 10 1 11 (.istore_n 3) := ⟨by decide +kernel, rfl⟩
theorem d_X6_holders_11 : Dc cX6_holders 11 1 12 (.iconst 0) := ⟨by decide +kernel, rfl⟩
theorem d_X6_holders_12 : Dc cX6_holders 12 2 14 (.istore 4) := ⟨by decide +kernel, rfl⟩
theorem d_X6_holders_14 : Dc cX6_holders 14 2 16 (.iload 4) := ⟨by decide +kernel, rfl⟩
theorem d_X6_holders_16 : Dc cX6_holders 16 1 17 (.aload_n 0) := ⟨by decide +kernel, rfl⟩
theorem d_X6_holders_17 : Dc cX6_holders 17 3 20 (.getfield 12) := ⟨by decide +kernel, rfl⟩
theorem d_X6_holders_20 : Dc cX6_holders 20 3 23 (.getfield 218) := ⟨by decide +kernel, rfl⟩
theorem d_X6_holders_23 : Dj cX6_holders 23 26 76 (.if_icmp .ge) := ⟨53, by decide +kernel, rfl, by decide⟩
theorem d_X6_holders_26 : Dc cX6_holders 26 1 27 (.aload_n 0) := ⟨by decide +kernel, rfl⟩
theorem d_X6_holders_27 : Dc cX6_holders 27 3 30 (.getfield 12) := ⟨by decide +kernel, rfl⟩
theorem d_X6_holders_30 : Dc cX6_holders 30 3 33 (.getfield 221) := ⟨by decide +kernel, rfl⟩
theorem d_X6_holders_33 : Dc cX6_holders 33 2 35 (.iload 4) := ⟨by decide +kernel, rfl⟩
theorem d_X6_holders_35 : Dc cX6_holders 35 1 36 .aaload := ⟨by decide +kernel, rfl⟩
theorem d_X6_holders_36 : Dc cX6_holders 36 2 38 (.astore 5) := ⟨by decide +kernel, rfl⟩
theorem d_X6_holders_38 : Dc cX6_holders 38 1 39 (.iload_n 2) := ⟨by decide +kernel, rfl⟩
theorem d_X6_holders_39 : Dj cX6_holders 39 42 50 (.ifCond .eq) := ⟨11, by decide +kernel, rfl, by decide⟩
theorem d_X6_holders_42 : Dc cX6_holders 42 2 44 (.aload 5) := ⟨by decide +kernel, rfl⟩
theorem d_X6_holders_44 : Dc cX6_holders 44 3 47 (.invokevirtual 118) := ⟨by decide +kernel, rfl⟩
theorem d_X6_holders_47 : Dj cX6_holders 47 50 55 .goto := ⟨8, by decide +kernel, rfl, by decide⟩
theorem d_X6_holders_50 : Dc cX6_holders 50 2 52 (.aload 5) := ⟨by decide +kernel, rfl⟩
theorem d_X6_holders_52 : Dc cX6_holders 52 3 55 (.invokevirtual 115) := ⟨by decide +kernel, rfl⟩
theorem d_X6_holders_55 : Dc cX6_holders 55 2 57 (.istore 6) := ⟨by decide +kernel, rfl⟩
theorem d_X6_holders_57 : Dc cX6_holders 57 2 59 (.iload 6) := ⟨by decide +kernel, rfl⟩
theorem d_X6_holders_59 : Dc cX6_holders 59 1 60 (.iload_n 1) := ⟨by decide +kernel, rfl⟩
theorem d_X6_holders_60 : Dj cX6_holders 60 63 70 (.if_icmp .ne) := ⟨10, by decide +kernel, rfl, by decide⟩
theorem d_X6_holders_63 : Dc cX6_holders 63 1 64 (.iload_n 3) := ⟨by decide +kernel, rfl⟩
theorem d_X6_holders_64 : Dc cX6_holders 64 1 65 (.iconst 1) := ⟨by decide +kernel, rfl⟩
theorem d_X6_holders_65 : Dc cX6_holders 65 2 67 (.iload 4) := ⟨by decide +kernel, rfl⟩
theorem d_X6_holders_67 : Dc cX6_holders 67 1 68 .ishl := ⟨by decide +kernel, rfl⟩
theorem d_X6_holders_68 : Dc cX6_holders 68 1 69 .ior := ⟨by decide +kernel, rfl⟩
theorem d_X6_holders_69 : Dc cX6_holders 69 1 70 (.istore_n 3) := ⟨by decide +kernel, rfl⟩
theorem d_X6_holders_70 : Dc cX6_holders 70 3 73 (.iinc 4 1) := ⟨by decide +kernel, rfl⟩
theorem d_X6_holders_73 : Dj cX6_holders 73 76 14 .goto := ⟨(-59), by decide +kernel, rfl, by decide⟩
theorem d_X6_holders_76 : Dc cX6_holders 76 1 77 (.iload_n 3) := ⟨by decide +kernel, rfl⟩
theorem d_X6_holders_77 : decode cX6_holders 77 = .ok (.ireturn, 1) := by decide +kernel
set_option maxHeartbeats 4000000 in
set_option maxRecDepth 20000 in
theorem c_X6_holders {E : Ev} {n : Nat} {M : Mem} {w o : Nat} {s : Int → Int} {fs : List Value} (h0 : M o = .inr (6, .ref (o + 1) :: fs)) (hN : SR E M w n (o + 1) s) {c t : Int} (h1 : rg c) (h2 : rg t) : MT E yX6_holders cX6_holders 7 (some .int) 2 0 0 [.ref o, .int (iI c), .int (iI t)] n M (PF (some (.int (iI (q_holders s c t)))) n (M)) := by
  refine MT.of (by decide) rfl (Nat.le_of_ble_eq_true rfl) ?_
  intro X g
  have g0 := g.1
  show V E X 0 0 n M 0 [some (.ref o), some (.int (iI c)), some (.int (iI t)), none, none, none, none] []
  obtain ⟨C, hS, hR, hv, hO⟩ := id hN
  have hR2 := hR
  obtain ⟨⟨ed, ei, ef⟩, hRow, hH⟩ := hR2
  have hm := hO.many
  have hdy := hO.day
  have a0 := hS.h0
  have a1 := hS.h1
  refine V.il1 g0 d_X6_holders_0 ?_
  refine V.callSp g0 (c_X6_isCountry h1) ky_X6_isCountry ks_X6_isCountry lk_X6_161 (Nat.le_of_ble_eq_true rfl) ⟨Nat.zero_le _, Nat.zero_le _⟩ rfl rfl (Nat.le_of_ble_eq_true rfl) d_X6_holders_1 ?_
  refine V.ifneB g0 d_X6_holders_4 (fun c_4 => ?_) (fun c_4 => ?_)
  · skip
    refine V.iconst g0 d_X6_holders_9 ?_
    refine V.is3 g0 d_X6_holders_10 ?_
    refine V.iconst g0 d_X6_holders_11 ?_
    refine V.is4 g0 d_X6_holders_12 ?_
    have LP : ∀ (f i : Nat), i + f = (s 619).toNat → V E X 0 0 n M 14 [some (.ref o), some (.int (iI c)), some (.int (iI t)), some (.int (iI ((hldN s c t i : Nat) : Int))), some (.int (iI (i : Int))), none, none] [] := by
      intro f
      induction f using Nat.strongRecOn with
      | _ f ih =>
      intro i hf
      have hmb := hldN_b (s := s) (c := c) (t := t) i (by omega)
      refine V.il4 g0 d_X6_holders_14 ?_
      refine V.al0 g0 d_X6_holders_16 ?_
      refine V.getf g0 d_X6_holders_17 fl_X6_12 (by assumption) (by rfl) ?_
      refine V.getf g0 d_X6_holders_20 fl_X6_218 (by assumption) (by rfl) ?_
      refine V.icmpge g0 d_X6_holders_23 (by omega) (fun c_23 => ?_) (fun c_23 => ?_)
      · skip
        refine V.il3 g0 d_X6_holders_76 ?_
        refine V.iret g d_X6_holders_77 (Nat.zero_le _) (Nat.zero_le _) ⟨congrArg (fun z => some (Value.int (iI z))) ?_, rfl, rfl⟩
        rw [show i = (s 619).toNat by omega]; exact (if_neg (fun q => q c_4)).symm
      · skip
        have hi : (i : Int) < s 619 := by omega
        have hho := hS.ho (i := i) (by omega)
        have hrow := hRow i (by omega)
        obtain ⟨hHR, hVR⟩ := hH i (by omega)
        have hk := hO.at (p := (i : Int)) (by omega) (by omega)
        have g0a := hho.h0
        have g1a := hho.h1
        have g4a := hho.h4
        have g5a := hho.h5
        have hjO := HolR.jOk hHR hk
        have hbO := HolR.bOk hHR hk
        have e8 : hcb (C i) = s (103 * (i : Int) + 8) := hHR.1.2.2.2.2
        have e8b : (C i).2.2.2.2.2.2.2.2.1 = s (103 * (i : Int) + 8) := hHR.1.2.2.2.2
        have hb8 := hk.stm
        have hbp := bP_b hk (s (103 * (i : Int) + 8))
        have hwr := hk.whr
        refine V.al0 g0 d_X6_holders_26 ?_
        refine V.getf g0 d_X6_holders_27 fl_X6_12 (by assumption) (by rfl) ?_
        refine V.getf g0 d_X6_holders_30 fl_X6_221 (by assumption) (by rfl) ?_
        refine V.il4 g0 d_X6_holders_33 ?_
        refine V.aald g0 d_X6_holders_35 (by assumption) rfl (by omega) (by decide) ?_
        rw [show hsF (o + 1) (i : Int) = some (hbs (o + 1) i) from rfl, show va_rf (some (hbs (o + 1) i)) = Value.ref (hbs (o + 1) i) from rfl]
        refine V.as5 g0 d_X6_holders_36 ?_
        refine V.il2 g0 d_X6_holders_38 ?_
        refine V.ifeq g0 d_X6_holders_39 (by omega) (fun c_39 => ?_) (fun c_39 => ?_)
        · skip
          refine V.al5 g0 d_X6_holders_50 ?_
          refine V.callVp g0 (c_X1_placeS hho hHR hk) ky_X1_place ki_X1_place ks2_X1_place lk_X6_115 (by assumption) rfl rfl (Nat.le_of_ble_eq_true rfl) ⟨Nat.zero_le _, Nat.zero_le _⟩ rfl rfl (Nat.le_of_ble_eq_true rfl) d_X6_holders_52 ?_
          refine V.is6 g0 d_X6_holders_55 ?_
          refine V.il6 g0 d_X6_holders_57 ?_
          refine V.il1 g0 d_X6_holders_59 ?_
          refine V.icmpne g0 d_X6_holders_60 (by omega) (fun c_60 => ?_) (fun c_60 => ?_)
          · skip
            refine V.inc4 g0 d_X6_holders_70 ?_
            refine V.goto g0 d_X6_holders_73 ?_
            have hpl : (if t = 0 then s (103 * (i : Int) + 2) else bP s i (s (103 * (i : Int) + 8))) = s (103 * (i : Int) + 2) := if_pos (by omega)
            refine V.weak2 (V.eqL ?_ (ih (f - 1) (by omega) (i + 1) (by omega))) (lcLe_s (lcLe_s (lcLe_s (lcLe_s (lcLe_s (lcLe_f (lcLe_f lcLe_n)))))))
            rw [show hldN s c t (i + 1) = hldN s c t i from by rw [hldN, if_neg (fun q => c_60 (hpl.symm.trans q)), Nat.or_zero]]; rfl
          · skip
            refine V.il3 g0 d_X6_holders_63 ?_
            refine V.iconst g0 d_X6_holders_64 ?_
            refine V.il4 g0 d_X6_holders_65 ?_
            refine V.ishl g0 d_X6_holders_67 (iI_shl1n (by omega)) ?_
            refine V.ior g0 d_X6_holders_68 iI_or ?_
            refine V.is3 g0 d_X6_holders_69 ?_
            refine V.inc4 g0 d_X6_holders_70 ?_
            refine V.goto g0 d_X6_holders_73 ?_
            have hpl : (if t = 0 then s (103 * (i : Int) + 2) else bP s i (s (103 * (i : Int) + 8))) = s (103 * (i : Int) + 2) := if_pos (by omega)
            refine V.weak2 (V.eqL ?_ (ih (f - 1) (by omega) (i + 1) (by omega))) (lcLe_s (lcLe_s (lcLe_s (lcLe_s (lcLe_s (lcLe_f (lcLe_f lcLe_n)))))))
            rw [show hldN s c t (i + 1) = hldN s c t i ||| 2 ^ i from by rw [hldN, if_pos (hpl.trans c_60)]]; rfl
        · skip
          refine V.al5 g0 d_X6_holders_42 ?_
          refine V.callVp g0 (c_X1_toldPlace hho hHR hk) ky_X1_toldPlace ki_X1_toldPlace ks2_X1_toldPlace lk_X6_118 (by assumption) rfl rfl (Nat.le_of_ble_eq_true rfl) ⟨Nat.zero_le _, Nat.zero_le _⟩ rfl rfl (Nat.le_of_ble_eq_true rfl) d_X6_holders_44 ?_
          refine V.goto g0 d_X6_holders_47 ?_
          refine V.is6 g0 d_X6_holders_55 ?_
          refine V.il6 g0 d_X6_holders_57 ?_
          refine V.il1 g0 d_X6_holders_59 ?_
          refine V.icmpne g0 d_X6_holders_60 (by omega) (fun c_60 => ?_) (fun c_60 => ?_)
          · skip
            refine V.inc4 g0 d_X6_holders_70 ?_
            refine V.goto g0 d_X6_holders_73 ?_
            have hpl : (if t = 0 then s (103 * (i : Int) + 2) else bP s i (s (103 * (i : Int) + 8))) = bP s i (s (103 * (i : Int) + 8)) := if_neg c_39
            refine V.weak2 (V.eqL ?_ (ih (f - 1) (by omega) (i + 1) (by omega))) (lcLe_s (lcLe_s (lcLe_s (lcLe_s (lcLe_s (lcLe_f (lcLe_f lcLe_n)))))))
            rw [show hldN s c t (i + 1) = hldN s c t i from by rw [hldN, if_neg (fun q => c_60 (hpl.symm.trans q)), Nat.or_zero]]; rfl
          · skip
            refine V.il3 g0 d_X6_holders_63 ?_
            refine V.iconst g0 d_X6_holders_64 ?_
            refine V.il4 g0 d_X6_holders_65 ?_
            refine V.ishl g0 d_X6_holders_67 (iI_shl1n (by omega)) ?_
            refine V.ior g0 d_X6_holders_68 iI_or ?_
            refine V.is3 g0 d_X6_holders_69 ?_
            refine V.inc4 g0 d_X6_holders_70 ?_
            refine V.goto g0 d_X6_holders_73 ?_
            have hpl : (if t = 0 then s (103 * (i : Int) + 2) else bP s i (s (103 * (i : Int) + 8))) = bP s i (s (103 * (i : Int) + 8)) := if_neg c_39
            refine V.weak2 (V.eqL ?_ (ih (f - 1) (by omega) (i + 1) (by omega))) (lcLe_s (lcLe_s (lcLe_s (lcLe_s (lcLe_s (lcLe_f (lcLe_f lcLe_n)))))))
            rw [show hldN s c t (i + 1) = hldN s c t i ||| 2 ^ i from by rw [hldN, if_pos (hpl.trans c_60)]]; rfl
    exact LP (s 619).toNat 0 (by omega)
  · skip
    refine V.iconst g0 d_X6_holders_7 ?_
    refine V.iret g d_X6_holders_8 (Nat.zero_le _) (Nat.zero_le _) ⟨congrArg (fun z => some (Value.int (iI z))) ?_, rfl, rfl⟩
    exact (if_pos c_4).symm

theorem d_X6_sumOverHolders_0 : Dc cX6_sumOverHolders 0 1 1 (.iconst 0) := ⟨by decide +kernel, rfl⟩
theorem d_X6_sumOverHolders_1 : Dc cX6_sumOverHolders 1 1 2 (.istore_n 2) := ⟨by decide +kernel, rfl⟩
theorem d_X6_sumOverHolders_2 : Dc cX6_sumOverHolders 2 1 3 (.iconst 0) := ⟨by decide +kernel, rfl⟩
theorem d_X6_sumOverHolders_3 : Dc cX6_sumOverHolders 3 1 4 (.istore_n 3) := ⟨by decide +kernel, rfl⟩
theorem d_X6_sumOverHolders_4 : Dc cX6_sumOverHolders 4 1 5 (.iload_n 3) := ⟨by decide +kernel, rfl⟩
theorem d_X6_sumOverHolders_5 : Dc cX6_sumOverHolders 5 1 6 (.aload_n 0) := ⟨by decide +kernel, rfl⟩
theorem d_X6_sumOverHolders_6 : Dc cX6_sumOverHolders 6 3 9 (.getfield 12) := ⟨by decide +kernel, rfl⟩
theorem d_X6_sumOverHolders_9 : Dc cX6_sumOverHolders 9 3 12 (.getfield 218) := ⟨by decide +kernel, rfl⟩
theorem d_X6_sumOverHolders_12 : Dj cX6_sumOverHolders 12 15 142 (.if_icmp .ge) := ⟨130, by decide +kernel, rfl, by decide⟩
theorem d_X6_sumOverHolders_15 : Dc cX6_sumOverHolders 15 1 16 (.aload_n 0) := ⟨by decide +kernel, rfl⟩
theorem d_X6_sumOverHolders_16 : Dc cX6_sumOverHolders 16 3 19 (.getfield 12) := ⟨by decide +kernel, rfl⟩
theorem d_X6_sumOverHolders_19 : Dc cX6_sumOverHolders 19 3 22 (.getfield 221) := ⟨by decide +kernel, rfl⟩
theorem d_X6_sumOverHolders_22 : Dc cX6_sumOverHolders 22 1 23 (.iload_n 3) := ⟨by decide +kernel, rfl⟩
theorem d_X6_sumOverHolders_23 : Dc cX6_sumOverHolders 23 1 24 .aaload := ⟨by decide +kernel, rfl⟩
theorem d_X6_sumOverHolders_24 : Dc cX6_sumOverHolders 24 2 26 (.astore 4) := ⟨by decide +kernel, rfl⟩
theorem d_X6_sumOverHolders_26 : Dc cX6_sumOverHolders 26 1 27 (.iload_n 1) := ⟨by decide +kernel, rfl⟩
theorem d_X6_sumOverHolders_27 : decode cX6_sumOverHolders 27 = .ok (.tableswitch 94 3 7 #[33, 44, 55, 69, 83], 33) := by decide +kernel
theorem d_X6_sumOverHolders_60 : Dc cX6_sumOverHolders 60 1 61 (.iload_n 2) := ⟨by decide +kernel, rfl⟩
theorem d_X6_sumOverHolders_61 : Dc cX6_sumOverHolders 61 2 63 (.aload 4) := ⟨by decide +kernel, rfl⟩
theorem d_X6_sumOverHolders_63 : Dc cX6_sumOverHolders 63 3 66 (.invokevirtual 133) := ⟨by decide +kernel, rfl⟩
theorem d_X6_sumOverHolders_66 : Dc cX6_sumOverHolders 66 1 67 .iadd := ⟨by decide +kernel, rfl⟩
theorem d_X6_sumOverHolders_67 : Dc cX6_sumOverHolders 67 1 68 (.istore_n 2) := ⟨by decide +kernel, rfl⟩
theorem d_X6_sumOverHolders_68 : Dj cX6_sumOverHolders 68 71 136 .goto := ⟨68, by decide +kernel, rfl, by decide⟩
theorem d_X6_sumOverHolders_71 : Dc cX6_sumOverHolders 71 1 72 (.iload_n 2) := ⟨by decide +kernel, rfl⟩
theorem d_X6_sumOverHolders_72 : Dc cX6_sumOverHolders 72 2 74 (.aload 4) := ⟨by decide +kernel, rfl⟩
theorem d_X6_sumOverHolders_74 : Dc cX6_sumOverHolders 74 3 77 (.getfield 136) := ⟨by decide +kernel, rfl⟩
theorem d_X6_sumOverHolders_77 : Dc cX6_sumOverHolders 77 1 78 .iadd := ⟨by decide +kernel, rfl⟩
theorem d_X6_sumOverHolders_78 : Dc cX6_sumOverHolders 78 1 79 (.istore_n 2) := ⟨by decide +kernel, rfl⟩
theorem d_X6_sumOverHolders_79 : Dj cX6_sumOverHolders 79 82 136 .goto := ⟨57, by decide +kernel, rfl, by decide⟩
theorem d_X6_sumOverHolders_82 : Dc cX6_sumOverHolders 82 1 83 (.iload_n 2) := ⟨by decide +kernel, rfl⟩
theorem d_X6_sumOverHolders_83 : Dc cX6_sumOverHolders 83 2 85 (.aload 4) := ⟨by decide +kernel, rfl⟩
theorem d_X6_sumOverHolders_85 : Dc cX6_sumOverHolders 85 3 88 (.getfield 121) := ⟨by decide +kernel, rfl⟩
theorem d_X6_sumOverHolders_88 : Dc cX6_sumOverHolders 88 3 91 (.invokevirtual 125) := ⟨by decide +kernel, rfl⟩
theorem d_X6_sumOverHolders_91 : Dc cX6_sumOverHolders 91 1 92 .iadd := ⟨by decide +kernel, rfl⟩
theorem d_X6_sumOverHolders_92 : Dc cX6_sumOverHolders 92 1 93 (.istore_n 2) := ⟨by decide +kernel, rfl⟩
theorem d_X6_sumOverHolders_93 : Dj cX6_sumOverHolders 93 96 136 .goto := ⟨43, by decide +kernel, rfl, by decide⟩
theorem d_X6_sumOverHolders_96 : Dc cX6_sumOverHolders 96 1 97 (.iload_n 2) := ⟨by decide +kernel, rfl⟩
theorem d_X6_sumOverHolders_97 : Dc cX6_sumOverHolders 97 2 99 (.aload 4) := ⟨by decide +kernel, rfl⟩
theorem d_X6_sumOverHolders_99 : Dc cX6_sumOverHolders 99 3 102 (.getfield 121) := ⟨by decide +kernel, rfl⟩
theorem d_X6_sumOverHolders_102 : Dc cX6_sumOverHolders 102 3 105 (.invokevirtual 130) := ⟨by decide +kernel, rfl⟩
theorem d_X6_sumOverHolders_105 : Dc cX6_sumOverHolders 105 1 106 .iadd := ⟨by decide +kernel, rfl⟩
theorem d_X6_sumOverHolders_106 : Dc cX6_sumOverHolders 106 1 107 (.istore_n 2) := ⟨by decide +kernel, rfl⟩
theorem d_X6_sumOverHolders_107 : Dj cX6_sumOverHolders 107 110 136 .goto := ⟨29, by decide +kernel, rfl, by decide⟩
theorem d_X6_sumOverHolders_110 : Dc cX6_sumOverHolders 110 1 111 (.iload_n 2) := ⟨by decide +kernel, rfl⟩
theorem d_X6_sumOverHolders_111 : Dc cX6_sumOverHolders 111 2 113 (.aload 4) := ⟨by decide +kernel, rfl⟩
theorem d_X6_sumOverHolders_113 : Dc cX6_sumOverHolders 113 3 116 (.invokevirtual 142) := ⟨by decide +kernel, rfl⟩
theorem d_X6_sumOverHolders_116 : Dc cX6_sumOverHolders 116 1 117 .iadd := ⟨by decide +kernel, rfl⟩
theorem d_X6_sumOverHolders_117 : Dc cX6_sumOverHolders 117 1 118 (.istore_n 2) := ⟨by decide +kernel, rfl⟩
theorem d_X6_sumOverHolders_118 : Dj cX6_sumOverHolders 118 121 136 .goto := ⟨18, by decide +kernel, rfl, by decide⟩
theorem d_X6_sumOverHolders_121 : Dc cX6_sumOverHolders 121 1 122 (.iload_n 2) := ⟨by decide +kernel, rfl⟩
theorem d_X6_sumOverHolders_122 : Dc cX6_sumOverHolders 122 2 124 (.aload 4) := ⟨by decide +kernel, rfl⟩
theorem d_X6_sumOverHolders_124 : Dc cX6_sumOverHolders 124 1 125 (.aload_n 0) := ⟨by decide +kernel, rfl⟩
theorem d_X6_sumOverHolders_125 : Dc cX6_sumOverHolders 125 3 128 (.getfield 12) := ⟨by decide +kernel, rfl⟩
theorem d_X6_sumOverHolders_128 : Dc cX6_sumOverHolders 128 3 131 (.getfield 103) := ⟨by decide +kernel, rfl⟩
theorem d_X6_sumOverHolders_131 : Dc cX6_sumOverHolders 131 3 134 (.invokevirtual 237) := ⟨by decide +kernel, rfl⟩
theorem d_X6_sumOverHolders_134 : Dc cX6_sumOverHolders 134 1 135 .iadd := ⟨by decide +kernel, rfl⟩
theorem d_X6_sumOverHolders_135 : Dc cX6_sumOverHolders 135 1 136 (.istore_n 2) := ⟨by decide +kernel, rfl⟩
theorem d_X6_sumOverHolders_136 : Dc cX6_sumOverHolders 136 3 139 (.iinc 3 1) := ⟨by decide +kernel, rfl⟩
theorem d_X6_sumOverHolders_139 : Dj cX6_sumOverHolders 139 142 4 .goto := ⟨(-135), by decide +kernel, rfl, by decide⟩
theorem d_X6_sumOverHolders_142 : Dc cX6_sumOverHolders 142 1 143 (.iload_n 2) := ⟨by decide +kernel, rfl⟩
theorem d_X6_sumOverHolders_143 : decode cX6_sumOverHolders 143 = .ok (.ireturn, 1) := by decide +kernel
set_option maxHeartbeats 4000000 in
set_option maxRecDepth 20000 in
theorem c_X6_sumOverHolders {E : Ev} {n : Nat} {M : Mem} {w o : Nat} {s : Int → Int} {fs : List Value} (h0 : M o = .inr (6, .ref (o + 1) :: fs)) (hN : SR E M w n (o + 1) s) {w : Int} (hw : 3 ≤ w ∧ w ≤ 8) : MT E yX6_sumOverHolders cX6_sumOverHolders 5 (some .int) 5 0 0 [.ref o, .int (iI w)] n M (PF (some (.int (iI (sumOf s w)))) n (M)) := by
  refine MT.of (by decide) rfl (Nat.le_of_ble_eq_true rfl) ?_
  intro X g
  have g0 := g.1
  show V E X 0 0 n M 0 [some (.ref o), some (.int (iI w)), none, none, none] []
  obtain ⟨C, hS, hR, hv, hO⟩ := id hN
  have hR2 := hR
  obtain ⟨⟨ed, ei, ef⟩, hRow, hH⟩ := hR2
  have hm := hO.many
  have hdy := hO.day
  have a0 := hS.h0
  have a1 := hS.h1
  refine V.iconst g0 d_X6_sumOverHolders_0 ?_
  refine V.is2 g0 d_X6_sumOverHolders_1 ?_
  refine V.iconst g0 d_X6_sumOverHolders_2 ?_
  refine V.is3 g0 d_X6_sumOverHolders_3 ?_
  have LP : ∀ (f i : Nat) (z : Int), i + f = (s 619).toNat → z = sumI (fun p => valF s w p) i → V E X 0 0 n M 4 [some (.ref o), some (.int (iI w)), some (.int (iI z)), some (.int (iI (i : Int))), none] [] := by
    intro f
    induction f using Nat.strongRecOn with
    | _ f ih =>
    intro i z hf hz
    refine V.il3 g0 d_X6_sumOverHolders_4 ?_
    refine V.al0 g0 d_X6_sumOverHolders_5 ?_
    refine V.getf g0 d_X6_sumOverHolders_6 fl_X6_12 (by assumption) (by rfl) ?_
    refine V.getf g0 d_X6_sumOverHolders_9 fl_X6_218 (by assumption) (by rfl) ?_
    refine V.icmpge g0 d_X6_sumOverHolders_12 (by omega) (fun c_12 => ?_) (fun c_12 => ?_)
    · skip
      refine V.il2 g0 d_X6_sumOverHolders_142 ?_
      refine V.iret g d_X6_sumOverHolders_143 (Nat.zero_le _) (Nat.zero_le _) ⟨congrArg (fun z => some (Value.int (iI z))) ?_, rfl, rfl⟩
      rw [hz, show i = (s 619).toNat by omega]; rfl
    · skip
      have hi : (i : Int) < s 619 := by omega
      have hho := hS.ho (i := i) (by omega)
      have hrow := hRow i (by omega)
      obtain ⟨hHR, hVR⟩ := hH i (by omega)
      have hk := hO.at (p := (i : Int)) (by omega) (by omega)
      have g0a := hho.h0
      have g1a := hho.h1
      have g4a := hho.h4
      have g5a := hho.h5
      have hjO := HolR.jOk hHR hk
      have hbO := HolR.bOk hHR hk
      have e8 : hcb (C i) = s (103 * (i : Int) + 8) := hHR.1.2.2.2.2
      have e8b : (C i).2.2.2.2.2.2.2.2.1 = s (103 * (i : Int) + 8) := hHR.1.2.2.2.2
      have hb8 := hk.stm
      refine V.al0 g0 d_X6_sumOverHolders_15 ?_
      refine V.getf g0 d_X6_sumOverHolders_16 fl_X6_12 (by assumption) (by rfl) ?_
      refine V.getf g0 d_X6_sumOverHolders_19 fl_X6_221 (by assumption) (by rfl) ?_
      refine V.il3 g0 d_X6_sumOverHolders_22 ?_
      refine V.aald g0 d_X6_sumOverHolders_23 (by assumption) rfl (by omega) (by decide) ?_
      rw [show hsF (o + 1) (i : Int) = some (hbs (o + 1) i) from rfl, show va_rf (some (hbs (o + 1) i)) = Value.ref (hbs (o + 1) i) from rfl]
      refine V.as4 g0 d_X6_sumOverHolders_24 ?_
      refine V.il1 g0 d_X6_sumOverHolders_26 ?_
      rcases (show (w < 3 ∨ 7 < w) ∨ w = 3 ∨ w = 4 ∨ w = 5 ∨ w = 6 ∨ w = 7 by omega) with w_27 | w_27 | w_27 | w_27 | w_27 | w_27
      · refine V.tout (q := 0) (t := 121) g0 d_X6_sumOverHolders_27 (by omega) w_27 (by decide) ?_
        refine V.il2 g0 d_X6_sumOverHolders_121 ?_
        refine V.al4 g0 d_X6_sumOverHolders_122 ?_
        refine V.al0 g0 d_X6_sumOverHolders_124 ?_
        refine V.getf g0 d_X6_sumOverHolders_125 fl_X6_12 (by assumption) (by rfl) ?_
        refine V.getf g0 d_X6_sumOverHolders_128 fl_X6_103 (by assumption) (by rfl) ?_
        refine V.callVp g0 (c_X1_visasValidOn hho hHR hk hVR (by constructor <;> omega)) ky_X1_visasValidOn ki_X1_visasValidOn ks2_X1_visasValidOn lk_X6_237 (by assumption) rfl rfl (Nat.le_of_ble_eq_true rfl) ⟨Nat.zero_le _, Nat.zero_le _⟩ rfl rfl (Nat.le_of_ble_eq_true rfl) d_X6_sumOverHolders_131 ?_
        refine V.iadd g0 d_X6_sumOverHolders_134 ?_
        refine V.is2 g0 d_X6_sumOverHolders_135 ?_
        refine V.inc3 g0 d_X6_sumOverHolders_136 ?_
        refine V.goto g0 d_X6_sumOverHolders_139 ?_
        exact V.weak2 (ih (f - 1) (by omega) (i + 1) _ (by omega) (by rw [hz]; exact congrArg (fun q => sumI (fun p => valF s w p) i + q) (show valF s w (i : Int) = sumI (fun c => bI (validOn s i c (s 618))) 6 from by rw [valF, if_neg (by omega), if_neg (by omega), if_neg (by omega), if_neg (by omega), if_pos (by omega)]; exact visN1 s i).symm)) (lcLe_s (lcLe_s (lcLe_s (lcLe_s (lcLe_f lcLe_n)))))
      · refine V.tin (q := 0) (off := 33) (t := 60) g0 d_X6_sumOverHolders_27 (by omega) (by omega) (by omega) (by rw [w_27]; rfl) (by decide) ?_
        refine V.il2 g0 d_X6_sumOverHolders_60 ?_
        refine V.al4 g0 d_X6_sumOverHolders_61 ?_
        refine V.callVp g0 (c_X1_crossings hho hHR hk) ky_X1_crossings ki_X1_crossings ks2_X1_crossings lk_X6_133 (by assumption) rfl rfl (Nat.le_of_ble_eq_true rfl) ⟨Nat.zero_le _, Nat.zero_le _⟩ rfl rfl (Nat.le_of_ble_eq_true rfl) d_X6_sumOverHolders_63 ?_
        refine V.iadd g0 d_X6_sumOverHolders_66 ?_
        refine V.is2 g0 d_X6_sumOverHolders_67 ?_
        refine V.goto g0 d_X6_sumOverHolders_68 ?_
        refine V.inc3 g0 d_X6_sumOverHolders_136 ?_
        refine V.goto g0 d_X6_sumOverHolders_139 ?_
        exact V.weak2 (ih (f - 1) (by omega) (i + 1) _ (by omega) (by rw [hz]; exact congrArg (fun q => sumI (fun p => valF s w p) i + q) (show valF s w (i : Int) = s (103 * (i : Int) + 3) from by rw [valF, if_pos (by omega)]).symm)) (lcLe_s (lcLe_s (lcLe_s (lcLe_s (lcLe_f lcLe_n)))))
      · refine V.tin (q := 0) (off := 44) (t := 71) g0 d_X6_sumOverHolders_27 (by omega) (by omega) (by omega) (by rw [w_27]; rfl) (by decide) ?_
        refine V.il2 g0 d_X6_sumOverHolders_71 ?_
        refine V.al4 g0 d_X6_sumOverHolders_72 ?_
        refine V.getf g0 d_X6_sumOverHolders_74 fl_X6_136 (by assumption) (by rfl) ?_
        refine V.iadd g0 d_X6_sumOverHolders_77 ?_
        refine V.is2 g0 d_X6_sumOverHolders_78 ?_
        refine V.goto g0 d_X6_sumOverHolders_79 ?_
        refine V.inc3 g0 d_X6_sumOverHolders_136 ?_
        refine V.goto g0 d_X6_sumOverHolders_139 ?_
        exact V.weak2 (ih (f - 1) (by omega) (i + 1) _ (by omega) (by rw [hz]; exact congrArg (fun q => sumI (fun p => valF s w p) i + q) (show valF s w (i : Int) = (C i).2.1 from by rw [valF, if_neg (by omega), if_pos (by omega)]; exact hHR.1.2.1.symm).symm)) (lcLe_s (lcLe_s (lcLe_s (lcLe_s (lcLe_f lcLe_n)))))
      · refine V.tin (q := 0) (off := 55) (t := 82) g0 d_X6_sumOverHolders_27 (by omega) (by omega) (by omega) (by rw [w_27]; rfl) (by decide) ?_
        refine V.il2 g0 d_X6_sumOverHolders_82 ?_
        refine V.al4 g0 d_X6_sumOverHolders_83 ?_
        refine V.getf g0 d_X6_sumOverHolders_85 fl_X6_121 (by assumption) (by rfl) ?_
        refine V.callVp g0 (c_X0_stamps hho.bo hbO) ky_X0_stamps ki_X0_stamps ks2_X0_stamps lk_X6_125 (by assumption) rfl rfl (Nat.le_of_ble_eq_true rfl) ⟨Nat.zero_le _, Nat.zero_le _⟩ rfl rfl (Nat.le_of_ble_eq_true rfl) d_X6_sumOverHolders_88 ?_
        refine V.iadd g0 d_X6_sumOverHolders_91 ?_
        refine V.is2 g0 d_X6_sumOverHolders_92 ?_
        refine V.goto g0 d_X6_sumOverHolders_93 ?_
        refine V.inc3 g0 d_X6_sumOverHolders_136 ?_
        refine V.goto g0 d_X6_sumOverHolders_139 ?_
        exact V.weak2 (ih (f - 1) (by omega) (i + 1) _ (by omega) (by rw [hz]; exact congrArg (fun q => sumI (fun p => valF s w p) i + q) (show valF s w (i : Int) = hcb (C i) from by rw [valF, if_neg (by omega), if_neg (by omega), if_pos (by omega)]; exact e8.symm).symm)) (lcLe_s (lcLe_s (lcLe_s (lcLe_s (lcLe_f lcLe_n)))))
      · refine V.tin (q := 0) (off := 69) (t := 96) g0 d_X6_sumOverHolders_27 (by omega) (by omega) (by omega) (by rw [w_27]; rfl) (by decide) ?_
        refine V.il2 g0 d_X6_sumOverHolders_96 ?_
        refine V.al4 g0 d_X6_sumOverHolders_97 ?_
        refine V.getf g0 d_X6_sumOverHolders_99 fl_X6_121 (by assumption) (by rfl) ?_
        refine V.callVp g0 (c_X0_gaps hho.bo hbO) ky_X0_gaps ki_X0_gaps ks2_X0_gaps lk_X6_130 (by assumption) rfl rfl (Nat.le_of_ble_eq_true rfl) ⟨Nat.zero_le _, Nat.zero_le _⟩ rfl rfl (Nat.le_of_ble_eq_true rfl) d_X6_sumOverHolders_102 ?_
        refine V.iadd g0 d_X6_sumOverHolders_105 ?_
        refine V.is2 g0 d_X6_sumOverHolders_106 ?_
        refine V.goto g0 d_X6_sumOverHolders_107 ?_
        refine V.inc3 g0 d_X6_sumOverHolders_136 ?_
        refine V.goto g0 d_X6_sumOverHolders_139 ?_
        exact V.weak2 (ih (f - 1) (by omega) (i + 1) _ (by omega) (by rw [hz]; exact congrArg (fun q => sumI (fun p => valF s w p) i + q) (show valF s w (i : Int) = sumI (fun r => bI (gapC (C i).2.2.2.2.2.2.2.1 (C i).2.2.2.2.2.2.2.2.2.1 (hcb (C i)) r)) (hcb (C i)).toNat from by rw [valF, if_neg (by omega), if_neg (by omega), if_neg (by omega), if_pos (by omega)]; exact (gaps_eq hHR hk).symm).symm)) (lcLe_s (lcLe_s (lcLe_s (lcLe_s (lcLe_f lcLe_n)))))
      · refine V.tin (q := 0) (off := 83) (t := 110) g0 d_X6_sumOverHolders_27 (by omega) (by omega) (by omega) (by rw [w_27]; rfl) (by decide) ?_
        refine V.il2 g0 d_X6_sumOverHolders_110 ?_
        refine V.al4 g0 d_X6_sumOverHolders_111 ?_
        refine V.callVp g0 (c_X1_visasHeld hho hHR hk hVR) ky_X1_visasHeld ki_X1_visasHeld ks2_X1_visasHeld lk_X6_142 (by assumption) rfl rfl (Nat.le_of_ble_eq_true rfl) ⟨Nat.zero_le _, Nat.zero_le _⟩ rfl rfl (Nat.le_of_ble_eq_true rfl) d_X6_sumOverHolders_113 ?_
        refine V.iadd g0 d_X6_sumOverHolders_116 ?_
        refine V.is2 g0 d_X6_sumOverHolders_117 ?_
        refine V.goto g0 d_X6_sumOverHolders_118 ?_
        refine V.inc3 g0 d_X6_sumOverHolders_136 ?_
        refine V.goto g0 d_X6_sumOverHolders_139 ?_
        exact V.weak2 (ih (f - 1) (by omega) (i + 1) _ (by omega) (by rw [hz]; exact congrArg (fun q => sumI (fun p => valF s w p) i + q) (show valF s w (i : Int) = sumI (fun c => bI (hasV s i c)) 6 from by rw [valF, if_neg (by omega), if_neg (by omega), if_neg (by omega), if_neg (by omega), if_neg (by omega)]; exact visN0 s i).symm)) (lcLe_s (lcLe_s (lcLe_s (lcLe_s (lcLe_f lcLe_n)))))
  exact LP (s 619).toNat 0 0 (by omega) rfl

theorem d_X6_count_0 : Dc cX6_count 0 1 1 (.iload_n 1) := ⟨by decide +kernel, rfl⟩
theorem d_X6_count_1 : decode cX6_count 1 = .ok (.tableswitch 108 0 11 #[63, 71, 79, 108, 108, 108, 108, 108, 108, 87, 95, 100], 63) := by decide +kernel
theorem d_X6_count_64 : Dc cX6_count 64 1 65 (.aload_n 0) := ⟨by decide +kernel, rfl⟩
theorem d_X6_count_65 : Dc cX6_count 65 3 68 (.getfield 12) := ⟨by decide +kernel, rfl⟩
theorem d_X6_count_68 : Dc cX6_count 68 3 71 (.getfield 103) := ⟨by decide +kernel, rfl⟩
theorem d_X6_count_71 : decode cX6_count 71 = .ok (.ireturn, 1) := by decide +kernel
theorem d_X6_count_72 : Dc cX6_count 72 1 73 (.aload_n 0) := ⟨by decide +kernel, rfl⟩
theorem d_X6_count_73 : Dc cX6_count 73 3 76 (.getfield 12) := ⟨by decide +kernel, rfl⟩
theorem d_X6_count_76 : Dc cX6_count 76 3 79 (.getfield 218) := ⟨by decide +kernel, rfl⟩
theorem d_X6_count_79 : decode cX6_count 79 = .ok (.ireturn, 1) := by decide +kernel
theorem d_X6_count_80 : Dc cX6_count 80 1 81 (.aload_n 0) := ⟨by decide +kernel, rfl⟩
theorem d_X6_count_81 : Dc cX6_count 81 3 84 (.getfield 12) := ⟨by decide +kernel, rfl⟩
theorem d_X6_count_84 : Dc cX6_count 84 3 87 (.invokevirtual 225) := ⟨by decide +kernel, rfl⟩
theorem d_X6_count_87 : decode cX6_count 87 = .ok (.ireturn, 1) := by decide +kernel
theorem d_X6_count_88 : Dc cX6_count 88 1 89 (.aload_n 0) := ⟨by decide +kernel, rfl⟩
theorem d_X6_count_89 : Dc cX6_count 89 3 92 (.getfield 12) := ⟨by decide +kernel, rfl⟩
theorem d_X6_count_92 : Dc cX6_count 92 3 95 (.getfield 228) := ⟨by decide +kernel, rfl⟩
theorem d_X6_count_95 : decode cX6_count 95 = .ok (.ireturn, 1) := by decide +kernel
theorem d_X6_count_96 : Dc cX6_count 96 1 97 (.aload_n 0) := ⟨by decide +kernel, rfl⟩
theorem d_X6_count_97 : Dc cX6_count 97 3 100 (.getfield 96) := ⟨by decide +kernel, rfl⟩
theorem d_X6_count_100 : decode cX6_count 100 = .ok (.ireturn, 1) := by decide +kernel
theorem d_X6_count_101 : Dc cX6_count 101 1 102 (.aload_n 0) := ⟨by decide +kernel, rfl⟩
theorem d_X6_count_102 : Dc cX6_count 102 3 105 (.getfield 29) := ⟨by decide +kernel, rfl⟩
theorem d_X6_count_105 : Dc cX6_count 105 3 108 (.getfield 231) := ⟨by decide +kernel, rfl⟩
theorem d_X6_count_108 : decode cX6_count 108 = .ok (.ireturn, 1) := by decide +kernel
theorem d_X6_count_109 : Dc cX6_count 109 1 110 (.iload_n 1) := ⟨by decide +kernel, rfl⟩
theorem d_X6_count_110 : Dc cX6_count 110 1 111 (.iconst 3) := ⟨by decide +kernel, rfl⟩
theorem d_X6_count_111 : Dc cX6_count 111 2 113 (.bipush 8) := ⟨by decide +kernel, rfl⟩
theorem d_X6_count_113 : Dc cX6_count 113 3 116 (.invokestatic 92) := ⟨by decide +kernel, rfl⟩
theorem d_X6_count_116 : Dj cX6_count 116 119 127 (.ifCond .eq) := ⟨11, by decide +kernel, rfl, by decide⟩
theorem d_X6_count_119 : Dc cX6_count 119 1 120 (.aload_n 0) := ⟨by decide +kernel, rfl⟩
theorem d_X6_count_120 : Dc cX6_count 120 1 121 (.iload_n 1) := ⟨by decide +kernel, rfl⟩
theorem d_X6_count_121 : Dc cX6_count 121 3 124 (.invokevirtual 234) := ⟨by decide +kernel, rfl⟩
theorem d_X6_count_124 : Dj cX6_count 124 127 129 .goto := ⟨5, by decide +kernel, rfl, by decide⟩
theorem d_X6_count_127 : Dc cX6_count 127 2 129 (.bipush (-2)) := ⟨by decide +kernel, rfl⟩
theorem d_X6_count_129 : decode cX6_count 129 = .ok (.ireturn, 1) := by decide +kernel
set_option maxHeartbeats 4000000 in
set_option maxRecDepth 20000 in
theorem c_X6_count {E : Ev} {n : Nat} {M : Mem} {w o : Nat} {s : Int → Int} {fs : List Value} (h0 : M o = .inr (6, .ref (o + 1) :: fs)) (hN : SR E M w n (o + 1) s) {kn kp cn ce : Int} {b : Nat} {tx : Int → Int} {ln th nx ki pa co fo fr un da : Int} (hx0 : M o = XO o kn b kp cn ce) (hxt : Bk M (o + 436) 2 (xtC E (o + 436) tx ln th nx ki pa co fo fr un da)) {w : Int} (h1 : rg w) : MT E yX6_count cX6_count 2 (some .int) 6 0 0 [.ref o, .int (iI w)] n M (PF (some (.int (iI (q_count s kn ln w)))) n (M)) := by
  refine MT.of (by decide) rfl (Nat.le_of_ble_eq_true rfl) ?_
  intro X g
  have g0 := g.1
  show V E X 0 0 n M 0 [some (.ref o), some (.int (iI w))] []
  obtain ⟨C, hS, hR, hv, hO⟩ := id hN
  have hR2 := hR
  obtain ⟨⟨ed, ei, ef⟩, hRow, hH⟩ := hR2
  have hm := hO.many
  have hdy := hO.day
  have a0 := hS.h0
  have a1 := hS.h1
  have hx1 : M (o + 436) = xtO (o + 436) ln th nx ki pa co fo fr un da := hxt 0 (by omega)
  refine V.il1 g0 d_X6_count_0 ?_
  rcases (show (w < 0 ∨ 11 < w) ∨ w = 0 ∨ w = 1 ∨ w = 2 ∨ w = 3 ∨ w = 4 ∨ w = 5 ∨ w = 6 ∨ w = 7 ∨ w = 8 ∨ w = 9 ∨ w = 10 ∨ w = 11 by omega) with w_1 | w_1 | w_1 | w_1 | w_1 | w_1 | w_1 | w_1 | w_1 | w_1 | w_1 | w_1 | w_1
  · refine V.tout (q := 0) (t := 109) g0 d_X6_count_1 (by omega) w_1 (by decide) ?_
    refine V.il1 g0 d_X6_count_109 ?_
    refine V.iconst g0 d_X6_count_110 ?_
    refine V.bipush g0 d_X6_count_111 (by decide) ?_
    refine V.callSp g0 (c_X6_isWithin h1 (by decide) (by decide)) ky_X6_isWithin ks_X6_isWithin lk_X6_92 (Nat.le_of_ble_eq_true rfl) ⟨Nat.zero_le _, Nat.zero_le _⟩ rfl rfl (Nat.le_of_ble_eq_true rfl) d_X6_count_113 ?_
    refine V.ifeqB g0 d_X6_count_116 (fun c_116 => ?_) (fun c_116 => ?_)
    · skip
      refine V.bipush g0 d_X6_count_127 (by decide) ?_
      refine V.iret g d_X6_count_129 (Nat.zero_le _) (Nat.zero_le _) ⟨congrArg (fun z => some (Value.int (iI z))) ?_, rfl, rfl⟩
      rw [q_count, if_neg (by omega), if_neg (by omega), if_neg (by omega), if_neg (by omega), if_neg (by omega), if_neg (by omega), if_neg (by omega)]
    · skip
      refine V.al0 g0 d_X6_count_119 ?_
      refine V.il1 g0 d_X6_count_120 ?_
      refine V.callVp g0 (c_X6_sumOverHolders h0 hN c_116) ky_X6_sumOverHolders ki_X6_sumOverHolders ks2_X6_sumOverHolders lk_X6_234 (by first | exact hx0 | assumption) rfl rfl (Nat.le_of_ble_eq_true rfl) ⟨Nat.zero_le _, Nat.zero_le _⟩ rfl rfl (Nat.le_of_ble_eq_true rfl) d_X6_count_121 ?_
      refine V.goto g0 d_X6_count_124 ?_
      refine V.iret g d_X6_count_129 (Nat.zero_le _) (Nat.zero_le _) ⟨congrArg (fun z => some (Value.int (iI z))) ?_, rfl, rfl⟩
      rw [q_count, if_neg (by omega), if_neg (by omega), if_neg (by omega), if_pos (by omega)]
  · refine V.tin (q := 0) (off := 63) (t := 64) g0 d_X6_count_1 (by omega) (by omega) (by omega) (by rw [w_1]; rfl) (by decide) ?_
    refine V.al0 g0 d_X6_count_64 ?_
    refine V.getf g0 d_X6_count_65 fl_X6_12 (by first | exact hx0 | assumption) (by rfl) ?_
    refine V.getf g0 d_X6_count_68 fl_X6_103 (by first | exact hx0 | assumption) (by rfl) ?_
    refine V.iret g d_X6_count_71 (Nat.zero_le _) (Nat.zero_le _) ⟨congrArg (fun z => some (Value.int (iI z))) ?_, rfl, rfl⟩
    rw [q_count, if_pos (by omega)]
  · refine V.tin (q := 0) (off := 71) (t := 72) g0 d_X6_count_1 (by omega) (by omega) (by omega) (by rw [w_1]; rfl) (by decide) ?_
    refine V.al0 g0 d_X6_count_72 ?_
    refine V.getf g0 d_X6_count_73 fl_X6_12 (by first | exact hx0 | assumption) (by rfl) ?_
    refine V.getf g0 d_X6_count_76 fl_X6_218 (by first | exact hx0 | assumption) (by rfl) ?_
    refine V.iret g d_X6_count_79 (Nat.zero_le _) (Nat.zero_le _) ⟨congrArg (fun z => some (Value.int (iI z))) ?_, rfl, rfl⟩
    rw [q_count, if_neg (by omega), if_pos (by omega)]
  · refine V.tin (q := 0) (off := 79) (t := 80) g0 d_X6_count_1 (by omega) (by omega) (by omega) (by rw [w_1]; rfl) (by decide) ?_
    refine V.al0 g0 d_X6_count_80 ?_
    refine V.getf g0 d_X6_count_81 fl_X6_12 (by first | exact hx0 | assumption) (by rfl) ?_
    refine V.callVp g0 (c_X2_closedBorders hS) ky_X2_closedBorders ki_X2_closedBorders ks2_X2_closedBorders lk_X6_225 a0 rfl rfl (Nat.le_of_ble_eq_true rfl) ⟨Nat.zero_le _, Nat.zero_le _⟩ rfl rfl (Nat.le_of_ble_eq_true rfl) d_X6_count_84 ?_
    rw [lbc_closed hO.clo]
    refine V.iret g d_X6_count_87 (Nat.zero_le _) (Nat.zero_le _) ⟨congrArg (fun z => some (Value.int (iI z))) ?_, rfl, rfl⟩
    rw [q_count, if_neg (by omega), if_neg (by omega), if_pos (by omega)]
  · refine V.tin (q := 0) (off := 108) (t := 109) g0 d_X6_count_1 (by omega) (by omega) (by omega) (by rw [w_1]; rfl) (by decide) ?_
    refine V.il1 g0 d_X6_count_109 ?_
    refine V.iconst g0 d_X6_count_110 ?_
    refine V.bipush g0 d_X6_count_111 (by decide) ?_
    refine V.callSp g0 (c_X6_isWithin h1 (by decide) (by decide)) ky_X6_isWithin ks_X6_isWithin lk_X6_92 (Nat.le_of_ble_eq_true rfl) ⟨Nat.zero_le _, Nat.zero_le _⟩ rfl rfl (Nat.le_of_ble_eq_true rfl) d_X6_count_113 ?_
    refine V.ifeqB g0 d_X6_count_116 (fun c_116 => ?_) (fun c_116 => ?_)
    · skip
      refine V.bipush g0 d_X6_count_127 (by decide) ?_
      refine V.iret g d_X6_count_129 (Nat.zero_le _) (Nat.zero_le _) ⟨congrArg (fun z => some (Value.int (iI z))) ?_, rfl, rfl⟩
      rw [q_count, if_neg (by omega), if_neg (by omega), if_neg (by omega), if_neg (by omega), if_neg (by omega), if_neg (by omega), if_neg (by omega)]
    · skip
      refine V.al0 g0 d_X6_count_119 ?_
      refine V.il1 g0 d_X6_count_120 ?_
      refine V.callVp g0 (c_X6_sumOverHolders h0 hN c_116) ky_X6_sumOverHolders ki_X6_sumOverHolders ks2_X6_sumOverHolders lk_X6_234 (by first | exact hx0 | assumption) rfl rfl (Nat.le_of_ble_eq_true rfl) ⟨Nat.zero_le _, Nat.zero_le _⟩ rfl rfl (Nat.le_of_ble_eq_true rfl) d_X6_count_121 ?_
      refine V.goto g0 d_X6_count_124 ?_
      refine V.iret g d_X6_count_129 (Nat.zero_le _) (Nat.zero_le _) ⟨congrArg (fun z => some (Value.int (iI z))) ?_, rfl, rfl⟩
      rw [q_count, if_neg (by omega), if_neg (by omega), if_neg (by omega), if_pos (by omega)]
  · refine V.tin (q := 0) (off := 108) (t := 109) g0 d_X6_count_1 (by omega) (by omega) (by omega) (by rw [w_1]; rfl) (by decide) ?_
    refine V.il1 g0 d_X6_count_109 ?_
    refine V.iconst g0 d_X6_count_110 ?_
    refine V.bipush g0 d_X6_count_111 (by decide) ?_
    refine V.callSp g0 (c_X6_isWithin h1 (by decide) (by decide)) ky_X6_isWithin ks_X6_isWithin lk_X6_92 (Nat.le_of_ble_eq_true rfl) ⟨Nat.zero_le _, Nat.zero_le _⟩ rfl rfl (Nat.le_of_ble_eq_true rfl) d_X6_count_113 ?_
    refine V.ifeqB g0 d_X6_count_116 (fun c_116 => ?_) (fun c_116 => ?_)
    · skip
      refine V.bipush g0 d_X6_count_127 (by decide) ?_
      refine V.iret g d_X6_count_129 (Nat.zero_le _) (Nat.zero_le _) ⟨congrArg (fun z => some (Value.int (iI z))) ?_, rfl, rfl⟩
      rw [q_count, if_neg (by omega), if_neg (by omega), if_neg (by omega), if_neg (by omega), if_neg (by omega), if_neg (by omega), if_neg (by omega)]
    · skip
      refine V.al0 g0 d_X6_count_119 ?_
      refine V.il1 g0 d_X6_count_120 ?_
      refine V.callVp g0 (c_X6_sumOverHolders h0 hN c_116) ky_X6_sumOverHolders ki_X6_sumOverHolders ks2_X6_sumOverHolders lk_X6_234 (by first | exact hx0 | assumption) rfl rfl (Nat.le_of_ble_eq_true rfl) ⟨Nat.zero_le _, Nat.zero_le _⟩ rfl rfl (Nat.le_of_ble_eq_true rfl) d_X6_count_121 ?_
      refine V.goto g0 d_X6_count_124 ?_
      refine V.iret g d_X6_count_129 (Nat.zero_le _) (Nat.zero_le _) ⟨congrArg (fun z => some (Value.int (iI z))) ?_, rfl, rfl⟩
      rw [q_count, if_neg (by omega), if_neg (by omega), if_neg (by omega), if_pos (by omega)]
  · refine V.tin (q := 0) (off := 108) (t := 109) g0 d_X6_count_1 (by omega) (by omega) (by omega) (by rw [w_1]; rfl) (by decide) ?_
    refine V.il1 g0 d_X6_count_109 ?_
    refine V.iconst g0 d_X6_count_110 ?_
    refine V.bipush g0 d_X6_count_111 (by decide) ?_
    refine V.callSp g0 (c_X6_isWithin h1 (by decide) (by decide)) ky_X6_isWithin ks_X6_isWithin lk_X6_92 (Nat.le_of_ble_eq_true rfl) ⟨Nat.zero_le _, Nat.zero_le _⟩ rfl rfl (Nat.le_of_ble_eq_true rfl) d_X6_count_113 ?_
    refine V.ifeqB g0 d_X6_count_116 (fun c_116 => ?_) (fun c_116 => ?_)
    · skip
      refine V.bipush g0 d_X6_count_127 (by decide) ?_
      refine V.iret g d_X6_count_129 (Nat.zero_le _) (Nat.zero_le _) ⟨congrArg (fun z => some (Value.int (iI z))) ?_, rfl, rfl⟩
      rw [q_count, if_neg (by omega), if_neg (by omega), if_neg (by omega), if_neg (by omega), if_neg (by omega), if_neg (by omega), if_neg (by omega)]
    · skip
      refine V.al0 g0 d_X6_count_119 ?_
      refine V.il1 g0 d_X6_count_120 ?_
      refine V.callVp g0 (c_X6_sumOverHolders h0 hN c_116) ky_X6_sumOverHolders ki_X6_sumOverHolders ks2_X6_sumOverHolders lk_X6_234 (by first | exact hx0 | assumption) rfl rfl (Nat.le_of_ble_eq_true rfl) ⟨Nat.zero_le _, Nat.zero_le _⟩ rfl rfl (Nat.le_of_ble_eq_true rfl) d_X6_count_121 ?_
      refine V.goto g0 d_X6_count_124 ?_
      refine V.iret g d_X6_count_129 (Nat.zero_le _) (Nat.zero_le _) ⟨congrArg (fun z => some (Value.int (iI z))) ?_, rfl, rfl⟩
      rw [q_count, if_neg (by omega), if_neg (by omega), if_neg (by omega), if_pos (by omega)]
  · refine V.tin (q := 0) (off := 108) (t := 109) g0 d_X6_count_1 (by omega) (by omega) (by omega) (by rw [w_1]; rfl) (by decide) ?_
    refine V.il1 g0 d_X6_count_109 ?_
    refine V.iconst g0 d_X6_count_110 ?_
    refine V.bipush g0 d_X6_count_111 (by decide) ?_
    refine V.callSp g0 (c_X6_isWithin h1 (by decide) (by decide)) ky_X6_isWithin ks_X6_isWithin lk_X6_92 (Nat.le_of_ble_eq_true rfl) ⟨Nat.zero_le _, Nat.zero_le _⟩ rfl rfl (Nat.le_of_ble_eq_true rfl) d_X6_count_113 ?_
    refine V.ifeqB g0 d_X6_count_116 (fun c_116 => ?_) (fun c_116 => ?_)
    · skip
      refine V.bipush g0 d_X6_count_127 (by decide) ?_
      refine V.iret g d_X6_count_129 (Nat.zero_le _) (Nat.zero_le _) ⟨congrArg (fun z => some (Value.int (iI z))) ?_, rfl, rfl⟩
      rw [q_count, if_neg (by omega), if_neg (by omega), if_neg (by omega), if_neg (by omega), if_neg (by omega), if_neg (by omega), if_neg (by omega)]
    · skip
      refine V.al0 g0 d_X6_count_119 ?_
      refine V.il1 g0 d_X6_count_120 ?_
      refine V.callVp g0 (c_X6_sumOverHolders h0 hN c_116) ky_X6_sumOverHolders ki_X6_sumOverHolders ks2_X6_sumOverHolders lk_X6_234 (by first | exact hx0 | assumption) rfl rfl (Nat.le_of_ble_eq_true rfl) ⟨Nat.zero_le _, Nat.zero_le _⟩ rfl rfl (Nat.le_of_ble_eq_true rfl) d_X6_count_121 ?_
      refine V.goto g0 d_X6_count_124 ?_
      refine V.iret g d_X6_count_129 (Nat.zero_le _) (Nat.zero_le _) ⟨congrArg (fun z => some (Value.int (iI z))) ?_, rfl, rfl⟩
      rw [q_count, if_neg (by omega), if_neg (by omega), if_neg (by omega), if_pos (by omega)]
  · refine V.tin (q := 0) (off := 108) (t := 109) g0 d_X6_count_1 (by omega) (by omega) (by omega) (by rw [w_1]; rfl) (by decide) ?_
    refine V.il1 g0 d_X6_count_109 ?_
    refine V.iconst g0 d_X6_count_110 ?_
    refine V.bipush g0 d_X6_count_111 (by decide) ?_
    refine V.callSp g0 (c_X6_isWithin h1 (by decide) (by decide)) ky_X6_isWithin ks_X6_isWithin lk_X6_92 (Nat.le_of_ble_eq_true rfl) ⟨Nat.zero_le _, Nat.zero_le _⟩ rfl rfl (Nat.le_of_ble_eq_true rfl) d_X6_count_113 ?_
    refine V.ifeqB g0 d_X6_count_116 (fun c_116 => ?_) (fun c_116 => ?_)
    · skip
      refine V.bipush g0 d_X6_count_127 (by decide) ?_
      refine V.iret g d_X6_count_129 (Nat.zero_le _) (Nat.zero_le _) ⟨congrArg (fun z => some (Value.int (iI z))) ?_, rfl, rfl⟩
      rw [q_count, if_neg (by omega), if_neg (by omega), if_neg (by omega), if_neg (by omega), if_neg (by omega), if_neg (by omega), if_neg (by omega)]
    · skip
      refine V.al0 g0 d_X6_count_119 ?_
      refine V.il1 g0 d_X6_count_120 ?_
      refine V.callVp g0 (c_X6_sumOverHolders h0 hN c_116) ky_X6_sumOverHolders ki_X6_sumOverHolders ks2_X6_sumOverHolders lk_X6_234 (by first | exact hx0 | assumption) rfl rfl (Nat.le_of_ble_eq_true rfl) ⟨Nat.zero_le _, Nat.zero_le _⟩ rfl rfl (Nat.le_of_ble_eq_true rfl) d_X6_count_121 ?_
      refine V.goto g0 d_X6_count_124 ?_
      refine V.iret g d_X6_count_129 (Nat.zero_le _) (Nat.zero_le _) ⟨congrArg (fun z => some (Value.int (iI z))) ?_, rfl, rfl⟩
      rw [q_count, if_neg (by omega), if_neg (by omega), if_neg (by omega), if_pos (by omega)]
  · refine V.tin (q := 0) (off := 108) (t := 109) g0 d_X6_count_1 (by omega) (by omega) (by omega) (by rw [w_1]; rfl) (by decide) ?_
    refine V.il1 g0 d_X6_count_109 ?_
    refine V.iconst g0 d_X6_count_110 ?_
    refine V.bipush g0 d_X6_count_111 (by decide) ?_
    refine V.callSp g0 (c_X6_isWithin h1 (by decide) (by decide)) ky_X6_isWithin ks_X6_isWithin lk_X6_92 (Nat.le_of_ble_eq_true rfl) ⟨Nat.zero_le _, Nat.zero_le _⟩ rfl rfl (Nat.le_of_ble_eq_true rfl) d_X6_count_113 ?_
    refine V.ifeqB g0 d_X6_count_116 (fun c_116 => ?_) (fun c_116 => ?_)
    · skip
      refine V.bipush g0 d_X6_count_127 (by decide) ?_
      refine V.iret g d_X6_count_129 (Nat.zero_le _) (Nat.zero_le _) ⟨congrArg (fun z => some (Value.int (iI z))) ?_, rfl, rfl⟩
      rw [q_count, if_neg (by omega), if_neg (by omega), if_neg (by omega), if_neg (by omega), if_neg (by omega), if_neg (by omega), if_neg (by omega)]
    · skip
      refine V.al0 g0 d_X6_count_119 ?_
      refine V.il1 g0 d_X6_count_120 ?_
      refine V.callVp g0 (c_X6_sumOverHolders h0 hN c_116) ky_X6_sumOverHolders ki_X6_sumOverHolders ks2_X6_sumOverHolders lk_X6_234 (by first | exact hx0 | assumption) rfl rfl (Nat.le_of_ble_eq_true rfl) ⟨Nat.zero_le _, Nat.zero_le _⟩ rfl rfl (Nat.le_of_ble_eq_true rfl) d_X6_count_121 ?_
      refine V.goto g0 d_X6_count_124 ?_
      refine V.iret g d_X6_count_129 (Nat.zero_le _) (Nat.zero_le _) ⟨congrArg (fun z => some (Value.int (iI z))) ?_, rfl, rfl⟩
      rw [q_count, if_neg (by omega), if_neg (by omega), if_neg (by omega), if_pos (by omega)]
  · refine V.tin (q := 0) (off := 87) (t := 88) g0 d_X6_count_1 (by omega) (by omega) (by omega) (by rw [w_1]; rfl) (by decide) ?_
    refine V.al0 g0 d_X6_count_88 ?_
    refine V.getf g0 d_X6_count_89 fl_X6_12 (by first | exact hx0 | assumption) (by rfl) ?_
    refine V.getf g0 d_X6_count_92 fl_X6_228 (by first | exact hx0 | assumption) (by rfl) ?_
    refine V.iret g d_X6_count_95 (Nat.zero_le _) (Nat.zero_le _) ⟨congrArg (fun z => some (Value.int (iI z))) ?_, rfl, rfl⟩
    rw [q_count, if_neg (by omega), if_neg (by omega), if_neg (by omega), if_neg (by omega), if_pos (by omega)]
  · refine V.tin (q := 0) (off := 95) (t := 96) g0 d_X6_count_1 (by omega) (by omega) (by omega) (by rw [w_1]; rfl) (by decide) ?_
    refine V.al0 g0 d_X6_count_96 ?_
    refine V.getf g0 d_X6_count_97 fl_X6_96 (by first | exact hx0 | assumption) (by rfl) ?_
    refine V.iret g d_X6_count_100 (Nat.zero_le _) (Nat.zero_le _) ⟨congrArg (fun z => some (Value.int (iI z))) ?_, rfl, rfl⟩
    rw [q_count, if_neg (by omega), if_neg (by omega), if_neg (by omega), if_neg (by omega), if_neg (by omega), if_pos (by omega)]
  · refine V.tin (q := 0) (off := 100) (t := 101) g0 d_X6_count_1 (by omega) (by omega) (by omega) (by rw [w_1]; rfl) (by decide) ?_
    refine V.al0 g0 d_X6_count_101 ?_
    refine V.getf g0 d_X6_count_102 fl_X6_29 (by first | exact hx0 | assumption) (by rfl) ?_
    refine V.getf g0 d_X6_count_105 fl_X6_231 (by first | exact hx0 | assumption) (by rfl) ?_
    refine V.iret g d_X6_count_108 (Nat.zero_le _) (Nat.zero_le _) ⟨congrArg (fun z => some (Value.int (iI z))) ?_, rfl, rfl⟩
    rw [q_count, if_neg (by omega), if_neg (by omega), if_neg (by omega), if_neg (by omega), if_neg (by omega), if_neg (by omega), if_pos (by omega)]
