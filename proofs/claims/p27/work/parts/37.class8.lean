theorem d_X5_init_0 : Dc cX5_init 0 1 1 (.aload_n 0) := ⟨by decide +kernel, rfl⟩
theorem d_X5_init_1 : Dc cX5_init 1 3 4 (.invokespecial 1) := ⟨by decide +kernel, rfl⟩
theorem d_X5_init_4 : Dc cX5_init 4 1 5 (.aload_n 0) := ⟨by decide +kernel, rfl⟩
theorem d_X5_init_5 : Dc cX5_init 5 1 6 (.iload_n 1) := ⟨by decide +kernel, rfl⟩
theorem d_X5_init_6 : Dc cX5_init 6 3 9 (.putfield 7) := ⟨by decide +kernel, rfl⟩
theorem d_X5_init_9 : Dc cX5_init 9 1 10 (.aload_n 0) := ⟨by decide +kernel, rfl⟩
theorem d_X5_init_10 : Dc cX5_init 10 1 11 (.iload_n 2) := ⟨by decide +kernel, rfl⟩
theorem d_X5_init_11 : Dc cX5_init 11 3 14 (.putfield 13) := ⟨by decide +kernel, rfl⟩
theorem d_X5_init_14 : Dc cX5_init 14 1 15 (.aload_n 0) := ⟨by decide +kernel, rfl⟩
theorem d_X5_init_15 : Dc cX5_init 15 1 16 (.iload_n 3) := ⟨by decide +kernel, rfl⟩
theorem d_X5_init_16 : Dc cX5_init 16 3 19 (.putfield 16) := ⟨by decide +kernel, rfl⟩
theorem d_X5_init_19 : Dc cX5_init 19 1 20 (.aload_n 0) := ⟨by decide +kernel, rfl⟩
theorem d_X5_init_20 : Dc cX5_init 20 2 22 (.iload 4) := ⟨by decide +kernel, rfl⟩
theorem d_X5_init_22 : Dc cX5_init 22 3 25 (.putfield 19) := ⟨by decide +kernel, rfl⟩
theorem d_X5_init_25 : decode cX5_init 25 = .ok (.return_, 1) := by decide +kernel
set_option maxHeartbeats 4000000 in
set_option maxRecDepth 20000 in
theorem c_X5_init {E : Ev} {n : Nat} {M : Mem} {m : Nat} {w0 w1 w2 w3 : Value} (h0 : M m = .inr (5, [w0, w1, w2, w3])) {c x u d : Int} : MT E yX5_init cX5_init 5 none 1 0 0 [.ref m, .int (iI c), .int (iI x), .int (iI u), .int (iI d)] n M ((PF none n (va_up M m (viC c x u d)))) := by
  refine MT.of (by decide) rfl (Nat.le_of_ble_eq_true rfl) ?_
  intro X g
  have g0 := g.1
  show V E X 0 0 n M 0 [some (.ref m), some (.int (iI c)), some (.int (iI x)), some (.int (iI u)), some (.int (iI d))] []
  refine V.al0 g0 d_X5_init_0 ?_
  refine V.oinit g0 d_X5_init_1 lk_X5_1 oi_inst oi_code (by decide) (Nat.le_of_ble_eq_true rfl) ?_
  refine V.al0 g0 d_X5_init_4 ?_
  refine V.il1 g0 d_X5_init_5 ?_
  refine V.putff g rfl rfl d_X5_init_6 fp_X5_7 rfl (by first | assumption | exact up_s) (Nat.le_of_ble_eq_true rfl) rfl rfl ?_
  try rw [up_up]
  refine V.al0 g0 d_X5_init_9 ?_
  refine V.il2 g0 d_X5_init_10 ?_
  refine V.putff g rfl rfl d_X5_init_11 fp_X5_13 rfl (by first | assumption | exact up_s) (Nat.le_of_ble_eq_true rfl) rfl rfl ?_
  try rw [up_up]
  refine V.al0 g0 d_X5_init_14 ?_
  refine V.il3 g0 d_X5_init_15 ?_
  refine V.putff g rfl rfl d_X5_init_16 fp_X5_16 rfl (by first | assumption | exact up_s) (Nat.le_of_ble_eq_true rfl) rfl rfl ?_
  try rw [up_up]
  refine V.al0 g0 d_X5_init_19 ?_
  refine V.il4 g0 d_X5_init_20 ?_
  refine V.putff g rfl rfl d_X5_init_22 fp_X5_19 rfl (by first | assumption | exact up_s) (Nat.le_of_ble_eq_true rfl) rfl rfl ?_
  try rw [up_up]
  refine V.vret g d_X5_init_25 (Nat.zero_le _) (Nat.zero_le _) ?_
  exact ⟨rfl, rfl, rfl⟩

theorem d_X2_giveVisa_0 : Dc cX2_giveVisa 0 1 1 (.aload_n 0) := ⟨by decide +kernel, rfl⟩
theorem d_X2_giveVisa_1 : Dc cX2_giveVisa 1 1 2 (.iload_n 1) := ⟨by decide +kernel, rfl⟩
theorem d_X2_giveVisa_2 : Dc cX2_giveVisa 2 3 5 (.invokevirtual 54) := ⟨by decide +kernel, rfl⟩
theorem d_X2_giveVisa_5 : Dc cX2_giveVisa 5 2 7 (.astore 6) := ⟨by decide +kernel, rfl⟩
theorem d_X2_giveVisa_7 : Dc cX2_giveVisa 7 2 9 (.aload 6) := ⟨by decide +kernel, rfl⟩
theorem d_X2_giveVisa_9 : Dj cX2_giveVisa 9 12 19 .ifnull := ⟨10, by decide +kernel, rfl, by decide⟩
theorem d_X2_giveVisa_12 : Dc cX2_giveVisa 12 1 13 (.iload_n 2) := ⟨by decide +kernel, rfl⟩
theorem d_X2_giveVisa_13 : Dc cX2_giveVisa 13 3 16 (.invokestatic 46) := ⟨by decide +kernel, rfl⟩
theorem d_X2_giveVisa_16 : Dj cX2_giveVisa 16 19 21 (.ifCond .ne) := ⟨5, by decide +kernel, rfl, by decide⟩
theorem d_X2_giveVisa_19 : Dc cX2_giveVisa 19 1 20 (.iconst (-1)) := ⟨by decide +kernel, rfl⟩
theorem d_X2_giveVisa_20 : decode cX2_giveVisa 20 = .ok (.ireturn, 1) := by decide +kernel
theorem d_X2_giveVisa_21 : Dc cX2_giveVisa 21 1 22 (.iload_n 3) := ⟨by decide +kernel, rfl⟩
theorem d_X2_giveVisa_22 : Dc cX2_giveVisa 22 2 24 (.iload 4) := ⟨by decide +kernel, rfl⟩
theorem d_X2_giveVisa_24 : Dc cX2_giveVisa 24 3 27 (.invokestatic 72) := ⟨by decide +kernel, rfl⟩
theorem d_X2_giveVisa_27 : Dj cX2_giveVisa 27 30 41 (.ifCond .eq) := ⟨14, by decide +kernel, rfl, by decide⟩
theorem d_X2_giveVisa_30 : Dc cX2_giveVisa 30 2 32 (.iload 5) := ⟨by decide +kernel, rfl⟩
theorem d_X2_giveVisa_32 : Dc cX2_giveVisa 32 1 33 (.iconst 1) := ⟨by decide +kernel, rfl⟩
theorem d_X2_giveVisa_33 : Dc cX2_giveVisa 33 2 35 (.bipush 99) := ⟨by decide +kernel, rfl⟩
theorem d_X2_giveVisa_35 : Dc cX2_giveVisa 35 3 38 (.invokestatic 36) := ⟨by decide +kernel, rfl⟩
theorem d_X2_giveVisa_38 : Dj cX2_giveVisa 38 41 44 (.ifCond .ne) := ⟨6, by decide +kernel, rfl, by decide⟩
theorem d_X2_giveVisa_41 : Dc cX2_giveVisa 41 2 43 (.bipush (-2)) := ⟨by decide +kernel, rfl⟩
theorem d_X2_giveVisa_43 : decode cX2_giveVisa 43 = .ok (.ireturn, 1) := by decide +kernel
theorem d_X2_giveVisa_44 : Dc cX2_giveVisa 44 1 45 (.iload_n 2) := ⟨by decide +kernel, rfl⟩
theorem d_X2_giveVisa_45 : Dc cX2_giveVisa 45 2 47 (.aload 6) := ⟨by decide +kernel, rfl⟩
theorem d_X2_giveVisa_47 : Dc cX2_giveVisa 47 3 50 (.getfield 76) := ⟨by decide +kernel, rfl⟩
theorem d_X2_giveVisa_50 : Dj cX2_giveVisa 50 53 56 (.if_icmp .ne) := ⟨6, by decide +kernel, rfl, by decide⟩
theorem d_X2_giveVisa_53 : Dc cX2_giveVisa 53 2 55 (.bipush (-4)) := ⟨by decide +kernel, rfl⟩
theorem d_X2_giveVisa_55 : decode cX2_giveVisa 55 = .ok (.ireturn, 1) := by decide +kernel
theorem d_X2_giveVisa_56 : Dc cX2_giveVisa 56 3 59 (.new 79) := ⟨by decide +kernel, rfl⟩
theorem d_X2_giveVisa_59 : Dc cX2_giveVisa 59 1 60 .dup := ⟨by decide +kernel, rfl⟩
theorem d_X2_giveVisa_60 : Dc cX2_giveVisa 60 1 61 (.iload_n 2) := ⟨by decide +kernel, rfl⟩
theorem d_X2_giveVisa_61 : Dc cX2_giveVisa 61 1 62 (.iload_n 3) := ⟨by decide +kernel, rfl⟩
theorem d_X2_giveVisa_62 : Dc cX2_giveVisa 62 2 64 (.iload 4) := ⟨by decide +kernel, rfl⟩
theorem d_X2_giveVisa_64 : Dc cX2_giveVisa 64 2 66 (.iload 5) := ⟨by decide +kernel, rfl⟩
theorem d_X2_giveVisa_66 : Dc cX2_giveVisa 66 3 69 (.invokespecial 81) := ⟨by decide +kernel, rfl⟩
theorem d_X2_giveVisa_69 : Dc cX2_giveVisa 69 2 71 (.astore 7) := ⟨by decide +kernel, rfl⟩
theorem d_X2_giveVisa_71 : Dc cX2_giveVisa 71 2 73 (.aload 6) := ⟨by decide +kernel, rfl⟩
theorem d_X2_giveVisa_73 : Dc cX2_giveVisa 73 1 74 (.iload_n 2) := ⟨by decide +kernel, rfl⟩
theorem d_X2_giveVisa_74 : Dc cX2_giveVisa 74 2 76 (.aload 7) := ⟨by decide +kernel, rfl⟩
theorem d_X2_giveVisa_76 : Dc cX2_giveVisa 76 3 79 (.invokevirtual 84) := ⟨by decide +kernel, rfl⟩
theorem d_X2_giveVisa_79 : Dc cX2_giveVisa 79 2 81 (.aload 6) := ⟨by decide +kernel, rfl⟩
theorem d_X2_giveVisa_81 : Dc cX2_giveVisa 81 2 83 (.aload 7) := ⟨by decide +kernel, rfl⟩
theorem d_X2_giveVisa_83 : Dc cX2_giveVisa 83 1 84 (.aload_n 0) := ⟨by decide +kernel, rfl⟩
theorem d_X2_giveVisa_84 : Dc cX2_giveVisa 84 3 87 (.getfield 18) := ⟨by decide +kernel, rfl⟩
theorem d_X2_giveVisa_87 : Dc cX2_giveVisa 87 3 90 (.invokevirtual 88) := ⟨by decide +kernel, rfl⟩
theorem d_X2_giveVisa_90 : decode cX2_giveVisa 90 = .ok (.ireturn, 1) := by decide +kernel
set_option maxHeartbeats 4000000 in
set_option maxRecDepth 20000 in
theorem c_X2_giveVisa {E : Ev} {n : Nat} {M : Mem} {m : Nat} {dy iss fg : Int} {cl : Int64} {C : Nat → HC} (hS : StM E M m dy iss fg cl C) {s : Int → Int} (hR : StR M s dy iss fg C) (hO : Ok s) (hn : m + 62 ≤ n) {p c x u d : Int} (h1 : rg p) (h2 : rg c) (h3 : rg x) (h4 : rg u) (h5 : rg d) : MT E yX2_giveVisa cX2_giveVisa 8 (some .int) 4 1 4 [.ref m, .int (iI p), .int (iI c), .int (iI x), .int (iI u), .int (iI d)] n M ((PF (some (.int (iI (if errGrant s p c x u d ≠ 0 then errGrant s p c x u d else toldDays s p c x u (s 618))))) (if errGrant s p c x u d ≠ 0 then n else n + 1) (if errGrant s p c x u d ≠ 0 then M else stU E (va_up M n (viC c x u d)) m dy iss fg cl (upC C p.toNat (visC (C p.toNat) c (some n)))))) := by
  refine MT.of (by decide) rfl (Nat.le_of_ble_eq_true rfl) ?_
  intro X g
  have g0 := g.1
  show V E X 0 0 n M 0 [some (.ref m), some (.int (iI p)), some (.int (iI c)), some (.int (iI x)), some (.int (iI u)), some (.int (iI d)), none, none] []
  have a0 := hS.h0
  have a1 := hS.h1
  have hm := hO.many
  have hdy := hO.day
  obtain ⟨⟨ed, ei, ef⟩, hRow, hH⟩ := hR
  refine V.eqM (st_id hS).symm ?_
  refine V.al0 g0 d_X2_giveVisa_0 ?_
  refine V.il1 g0 d_X2_giveVisa_1 ?_
  refine V.callVp g0 (c_X2_holderOf st_M (by omega) h1) ky_X2_holderOf ki_X2_holderOf ks2_X2_holderOf lk_X2_54 (by first | exact st_M.h0 | exact st_M.h1 | exact hho.h0 | assumption) rfl rfl (Nat.le_of_ble_eq_true rfl) ⟨Nat.zero_le _, Nat.zero_le _⟩ rfl rfl (Nat.le_of_ble_eq_true rfl) d_X2_giveVisa_2 ?_
  rcases holQ_c m iss p with ⟨hp, he⟩ | ⟨i, hi, hp, he⟩
  · skip
    rw [he, show va_rf none = Value.null from rfl]
    refine V.asN6 g0 d_X2_giveVisa_5 ?_
    refine V.alN6 g0 d_X2_giveVisa_7 ?_
    refine V.ifnullN g0 d_X2_giveVisa_9 ?_
    refine V.iconst g0 d_X2_giveVisa_19 ?_
    refine V.iret g d_X2_giveVisa_20 (Nat.zero_le _) (Nat.zero_le _) ?_
    have e : errGrant s p c x u d = -1 := if_pos (fun q => hp (by omega))
    rw [e, if_pos (by omega), if_pos (by omega), if_pos (by omega)]; exact ⟨rfl, rfl, st_id hS⟩
  · skip
    subst hp
    rw [he, show va_rf (some (hbs m i)) = Value.ref (hbs m i) from rfl]
    have hq : 0 ≤ (i : Int) ∧ (i : Int) ≤ iss - 1 := by omega
    have hho := (st_M (E := E) (M := M) (t := m) (dy := dy) (iss := iss) (fg := fg) (cl := cl) (C := C)).ho (i := i) (by omega)
    have hrow := hRow i (by omega)
    obtain ⟨hHR, hVR⟩ := hH i (by omega)
    have hk := hO.at (p := (i : Int)) (by omega) (by omega)
    have g0a := hho.h0
    have g4a := hho.h4
    have hjO := HolR.jOk hHR hk
    have hbO := HolR.bOk hHR hk
    have b0 := hk.home
    have e0 := hHR.1.1
    refine V.as6 g0 d_X2_giveVisa_5 ?_
    refine V.al6 g0 d_X2_giveVisa_7 ?_
    refine V.ifnull g0 d_X2_giveVisa_9 ?_
    refine V.il2 g0 d_X2_giveVisa_12 ?_
    refine V.callSNp g0 (c_X6_isCountry h2) ky_X6_isCountry ks_X6_isCountry lk_X2_46 (Nat.le_of_ble_eq_true rfl) ⟨Nat.zero_le _, Nat.zero_le _⟩ rfl rfl (Nat.le_of_ble_eq_true rfl) d_X2_giveVisa_13 ?_
    refine V.ifneB g0 d_X2_giveVisa_16 (fun c_16 => ?_) (fun c_16 => ?_)
    · skip
      refine V.il3 g0 d_X2_giveVisa_21 ?_
      refine V.il4 g0 d_X2_giveVisa_22 ?_
      have hA : ¬ ¬ ((0 ≤ (i : Int) ∧ (i : Int) ≤ s 619 - 1) ∧ (0 ≤ c ∧ c ≤ 5)) := fun q => q ⟨by omega, c_16⟩
      refine V.callSNp g0 (c_X6_isSpan h3 h4) ky_X6_isSpan ks_X6_isSpan lk_X2_72 (Nat.le_of_ble_eq_true rfl) ⟨Nat.zero_le _, Nat.zero_le _⟩ rfl rfl (Nat.le_of_ble_eq_true rfl) d_X2_giveVisa_24 ?_
      refine V.ifeqB g0 d_X2_giveVisa_27 (fun c_27 => ?_) (fun c_27 => ?_)
      · skip
        refine V.bipush g0 d_X2_giveVisa_41 (by decide) ?_
        refine V.iret g d_X2_giveVisa_43 (Nat.zero_le _) (Nat.zero_le _) ?_
        have e : errGrant s (i : Int) c x u d = -2 := (if_neg hA).trans (if_pos (fun q => c_27 q.1))
        rw [e, if_pos (by omega), if_pos (by omega), if_pos (by omega)]; exact ⟨rfl, rfl, st_id hS⟩
      · skip
        refine V.il5 g0 d_X2_giveVisa_30 ?_
        refine V.iconst g0 d_X2_giveVisa_32 ?_
        refine V.bipush g0 d_X2_giveVisa_33 (by decide) ?_
        refine V.callSNp g0 (c_X6_isWithin h5 (by decide) (by decide)) ky_X6_isWithin ks_X6_isWithin lk_X2_36 (Nat.le_of_ble_eq_true rfl) ⟨Nat.zero_le _, Nat.zero_le _⟩ rfl rfl (Nat.le_of_ble_eq_true rfl) d_X2_giveVisa_35 ?_
        refine V.ifneB g0 d_X2_giveVisa_38 (fun c_38 => ?_) (fun c_38 => ?_)
        · skip
          have hBd : ¬ ¬ (((0 ≤ x ∧ x ≤ 999) ∧ (x ≤ u ∧ u ≤ 999)) ∧ (1 ≤ d ∧ d ≤ 99)) := fun q => q ⟨c_27, c_38⟩
          refine V.il2 g0 d_X2_giveVisa_44 ?_
          refine V.al6 g0 d_X2_giveVisa_45 ?_
          refine V.getf g0 d_X2_giveVisa_47 fl_X2_76 (by first | exact st_M.h0 | exact st_M.h1 | exact hho.h0 | assumption) (by rfl) ?_
          refine V.icmpne g0 d_X2_giveVisa_50 (by omega) (fun c_50 => ?_) (fun c_50 => ?_)
          · skip
            have e : errGrant s (i : Int) c x u d = 0 := (if_neg hA).trans ((if_neg hBd).trans (if_neg (by omega)))
            refine V.newo g0 d_X2_giveVisa_56 nw_X2_79 (by omega) (by omega) ?_
            refine V.eqM (st_up (by omega)) ?_
            refine V.dup g0 d_X2_giveVisa_59 rfl ?_
            refine V.il2 g0 d_X2_giveVisa_60 ?_
            refine V.il3 g0 d_X2_giveVisa_61 ?_
            refine V.il4 g0 d_X2_giveVisa_62 ?_
            refine V.il5 g0 d_X2_giveVisa_64 ?_
            refine V.callI g0 (c_X5_init (c := c) (x := x) (u := u) (d := d) ((ov_n (by omega)).trans up_s)) ky_X5_init ki_X5_init rfl lk_X2_81 (Nat.le_of_ble_eq_true rfl) ⟨by omega, by omega⟩ rfl rfl (Nat.le_of_ble_eq_true rfl) d_X2_giveVisa_66 (fun v_66 n_66 M_66 h_66 => ?_)
            obtain ⟨rfl, rfl, rfl⟩ := h_66
            refine V.eqM ((st_up (by omega)).trans (by rw [up_up])) ?_
            have hbi := hbs_in (t := m) (i := i) (by omega)
            have hho2 := (st_M (E := E) (M := va_up M n (viC c x u d)) (t := m) (dy := dy) (iss := iss) (fg := fg) (cl := cl) (C := C)).ho (i := i) (by omega)
            have g0b := hho2.h0
            refine V.as7 g0 d_X2_giveVisa_69 ?_
            refine V.al6 g0 d_X2_giveVisa_71 ?_
            refine V.il2 g0 d_X2_giveVisa_73 ?_
            refine V.al7 g0 d_X2_giveVisa_74 ?_
            refine V.callVf g0 (c_X1_setVisaR hho2 (c := c) (by omega) ((ov_n (by omega)).trans up_s) (by omega)) ky_X1_setVisa ki_X1_setVisa ks2_X1_setVisa lk_X2_84 g0b rfl rfl (Nat.le_of_ble_eq_true rfl) ⟨by omega, by omega⟩ rfl rfl (Nat.le_of_ble_eq_true rfl) d_X2_giveVisa_76 ?_
            refine V.eqM (st_uh (i := i) (c := visC (C i) c (some n)) (by omega)) ?_
            have hho3 := (st_M (E := E) (M := va_up M n (viC c x u d)) (t := m) (dy := dy) (iss := iss) (fg := fg) (cl := cl) (C := upC C i (visC (C i) c (some n)))).ho (i := i) (by omega)
            rw [show upC C i (visC (C i) c (some n)) i = visC (C i) c (some n) from upC_s] at hho3
            have g0c := hho3.h0
            refine V.al6 g0 d_X2_giveVisa_79 ?_
            refine V.al7 g0 d_X2_giveVisa_81 ?_
            refine V.al0 g0 d_X2_giveVisa_83 ?_
            refine V.getf g0 d_X2_giveVisa_84 fl_X2_18 (by first | exact st_M.h0 | exact st_M.h1 | exact hho.h0 | assumption) (by rfl) ?_
            refine V.callVp g0 (c_X1_usedDays hho3 hHR hk ((ov_n (by omega)).trans up_s) c_16 c_27.1 (by omega) (by omega)) ky_X1_usedDays ki_X1_usedDays ks2_X1_usedDays lk_X2_88 g0c rfl rfl (Nat.le_of_ble_eq_true rfl) ⟨by omega, by omega⟩ rfl rfl (Nat.le_of_ble_eq_true rfl) d_X2_giveVisa_87 ?_
            refine V.iret g d_X2_giveVisa_90 (by omega) (by omega) ?_
            rw [if_neg (fun q => q e), if_neg (fun q => q e), if_neg (fun q => q e), ← ed]; exact ⟨rfl, rfl, rfl⟩
          · skip
            refine V.bipush g0 d_X2_giveVisa_53 (by decide) ?_
            refine V.iret g d_X2_giveVisa_55 (Nat.zero_le _) (Nat.zero_le _) ?_
            have e : errGrant s (i : Int) c x u d = -4 := (if_neg hA).trans ((if_neg hBd).trans (if_pos (by omega)))
            rw [e, if_pos (by omega), if_pos (by omega), if_pos (by omega)]; exact ⟨rfl, rfl, st_id hS⟩
        · skip
          refine V.bipush g0 d_X2_giveVisa_41 (by decide) ?_
          refine V.iret g d_X2_giveVisa_43 (Nat.zero_le _) (Nat.zero_le _) ?_
          have e : errGrant s (i : Int) c x u d = -2 := (if_neg hA).trans (if_pos (fun q => c_38 q.2))
          rw [e, if_pos (by omega), if_pos (by omega), if_pos (by omega)]; exact ⟨rfl, rfl, st_id hS⟩
    · skip
      refine V.iconst g0 d_X2_giveVisa_19 ?_
      refine V.iret g d_X2_giveVisa_20 (Nat.zero_le _) (Nat.zero_le _) ?_
      have e : errGrant s (i : Int) c x u d = -1 := if_pos (fun q => c_16 q.2)
      rw [e, if_pos (by omega), if_pos (by omega), if_pos (by omega)]; exact ⟨rfl, rfl, st_id hS⟩
