theorem d_X2_moveHolder_0 : Dc cX2_moveHolder 0 1 1 (.aload_n 0) := ⟨by decide +kernel, rfl⟩
theorem d_X2_moveHolder_1 : Dc cX2_moveHolder 1 1 2 (.iload_n 1) := ⟨by decide +kernel, rfl⟩
theorem d_X2_moveHolder_2 : Dc cX2_moveHolder 2 3 5 (.invokevirtual 54) := ⟨by decide +kernel, rfl⟩
theorem d_X2_moveHolder_5 : Dc cX2_moveHolder 5 2 7 (.astore 4) := ⟨by decide +kernel, rfl⟩
theorem d_X2_moveHolder_7 : Dc cX2_moveHolder 7 2 9 (.aload 4) := ⟨by decide +kernel, rfl⟩
theorem d_X2_moveHolder_9 : Dj cX2_moveHolder 9 12 19 .ifnull := ⟨10, by decide +kernel, rfl, by decide⟩
theorem d_X2_moveHolder_12 : Dc cX2_moveHolder 12 1 13 (.iload_n 2) := ⟨by decide +kernel, rfl⟩
theorem d_X2_moveHolder_13 : Dc cX2_moveHolder 13 3 16 (.invokestatic 46) := ⟨by decide +kernel, rfl⟩
theorem d_X2_moveHolder_16 : Dj cX2_moveHolder 16 19 21 (.ifCond .ne) := ⟨5, by decide +kernel, rfl, by decide⟩
theorem d_X2_moveHolder_19 : Dc cX2_moveHolder 19 1 20 (.iconst (-1)) := ⟨by decide +kernel, rfl⟩
theorem d_X2_moveHolder_20 : decode cX2_moveHolder 20 = .ok (.ireturn, 1) := by decide +kernel
theorem d_X2_moveHolder_21 : Dc cX2_moveHolder 21 1 22 (.iload_n 3) := ⟨by decide +kernel, rfl⟩
theorem d_X2_moveHolder_22 : Dc cX2_moveHolder 22 1 23 (.iconst 0) := ⟨by decide +kernel, rfl⟩
theorem d_X2_moveHolder_23 : Dc cX2_moveHolder 23 1 24 (.iconst 3) := ⟨by decide +kernel, rfl⟩
theorem d_X2_moveHolder_24 : Dc cX2_moveHolder 24 3 27 (.invokestatic 36) := ⟨by decide +kernel, rfl⟩
theorem d_X2_moveHolder_27 : Dj cX2_moveHolder 27 30 33 (.ifCond .ne) := ⟨6, by decide +kernel, rfl, by decide⟩
theorem d_X2_moveHolder_30 : Dc cX2_moveHolder 30 2 32 (.bipush (-2)) := ⟨by decide +kernel, rfl⟩
theorem d_X2_moveHolder_32 : decode cX2_moveHolder 32 = .ok (.ireturn, 1) := by decide +kernel
theorem d_X2_moveHolder_33 : Dc cX2_moveHolder 33 1 34 (.iload_n 3) := ⟨by decide +kernel, rfl⟩
theorem d_X2_moveHolder_34 : Dc cX2_moveHolder 34 3 37 (.invokestatic 103) := ⟨by decide +kernel, rfl⟩
theorem d_X2_moveHolder_37 : Dc cX2_moveHolder 37 2 39 (.istore 5) := ⟨by decide +kernel, rfl⟩
theorem d_X2_moveHolder_39 : Dc cX2_moveHolder 39 1 40 (.aload_n 0) := ⟨by decide +kernel, rfl⟩
theorem d_X2_moveHolder_40 : Dc cX2_moveHolder 40 2 42 (.aload 4) := ⟨by decide +kernel, rfl⟩
theorem d_X2_moveHolder_42 : Dc cX2_moveHolder 42 1 43 (.iload_n 2) := ⟨by decide +kernel, rfl⟩
theorem d_X2_moveHolder_43 : Dc cX2_moveHolder 43 1 44 (.iconst 2) := ⟨by decide +kernel, rfl⟩
theorem d_X2_moveHolder_44 : Dc cX2_moveHolder 44 2 46 (.iload 5) := ⟨by decide +kernel, rfl⟩
theorem d_X2_moveHolder_46 : Dc cX2_moveHolder 46 1 47 .isub := ⟨by decide +kernel, rfl⟩
theorem d_X2_moveHolder_47 : Dc cX2_moveHolder 47 3 50 (.invokevirtual 108) := ⟨by decide +kernel, rfl⟩
theorem d_X2_moveHolder_50 : Dc cX2_moveHolder 50 2 52 (.istore 6) := ⟨by decide +kernel, rfl⟩
theorem d_X2_moveHolder_52 : Dc cX2_moveHolder 52 2 54 (.iload 6) := ⟨by decide +kernel, rfl⟩
theorem d_X2_moveHolder_54 : Dj cX2_moveHolder 54 57 63 (.ifCond .eq) := ⟨9, by decide +kernel, rfl, by decide⟩
theorem d_X2_moveHolder_57 : Dc cX2_moveHolder 57 2 59 (.bipush (-10)) := ⟨by decide +kernel, rfl⟩
theorem d_X2_moveHolder_59 : Dc cX2_moveHolder 59 2 61 (.iload 6) := ⟨by decide +kernel, rfl⟩
theorem d_X2_moveHolder_61 : Dc cX2_moveHolder 61 1 62 .isub := ⟨by decide +kernel, rfl⟩
theorem d_X2_moveHolder_62 : decode cX2_moveHolder 62 = .ok (.ireturn, 1) := by decide +kernel
theorem d_X2_moveHolder_63 : Dc cX2_moveHolder 63 1 64 (.iload_n 3) := ⟨by decide +kernel, rfl⟩
theorem d_X2_moveHolder_64 : Dc cX2_moveHolder 64 1 65 (.iconst 1) := ⟨by decide +kernel, rfl⟩
theorem d_X2_moveHolder_65 : Dc cX2_moveHolder 65 1 66 .iand := ⟨by decide +kernel, rfl⟩
theorem d_X2_moveHolder_66 : Dj cX2_moveHolder 66 69 86 (.ifCond .ne) := ⟨20, by decide +kernel, rfl, by decide⟩
theorem d_X2_moveHolder_69 : Dc cX2_moveHolder 69 2 71 (.aload 4) := ⟨by decide +kernel, rfl⟩
theorem d_X2_moveHolder_71 : Dc cX2_moveHolder 71 3 74 (.getfield 58) := ⟨by decide +kernel, rfl⟩
theorem d_X2_moveHolder_74 : Dc cX2_moveHolder 74 2 76 (.aload 4) := ⟨by decide +kernel, rfl⟩
theorem d_X2_moveHolder_76 : Dc cX2_moveHolder 76 3 79 (.invokevirtual 112) := ⟨by decide +kernel, rfl⟩
theorem d_X2_moveHolder_79 : Dc cX2_moveHolder 79 1 80 (.aload_n 0) := ⟨by decide +kernel, rfl⟩
theorem d_X2_moveHolder_80 : Dc cX2_moveHolder 80 3 83 (.getfield 18) := ⟨by decide +kernel, rfl⟩
theorem d_X2_moveHolder_83 : Dc cX2_moveHolder 83 3 86 (.invokevirtual 115) := ⟨by decide +kernel, rfl⟩
theorem d_X2_moveHolder_86 : Dc cX2_moveHolder 86 1 87 (.iload_n 3) := ⟨by decide +kernel, rfl⟩
theorem d_X2_moveHolder_87 : Dc cX2_moveHolder 87 1 88 (.iconst 2) := ⟨by decide +kernel, rfl⟩
theorem d_X2_moveHolder_88 : Dc cX2_moveHolder 88 1 89 .iand := ⟨by decide +kernel, rfl⟩
theorem d_X2_moveHolder_89 : Dj cX2_moveHolder 89 92 105 (.ifCond .ne) := ⟨16, by decide +kernel, rfl, by decide⟩
theorem d_X2_moveHolder_92 : Dc cX2_moveHolder 92 2 94 (.aload 4) := ⟨by decide +kernel, rfl⟩
theorem d_X2_moveHolder_94 : Dc cX2_moveHolder 94 3 97 (.getfield 58) := ⟨by decide +kernel, rfl⟩
theorem d_X2_moveHolder_97 : Dc cX2_moveHolder 97 1 98 (.iload_n 2) := ⟨by decide +kernel, rfl⟩
theorem d_X2_moveHolder_98 : Dc cX2_moveHolder 98 1 99 (.aload_n 0) := ⟨by decide +kernel, rfl⟩
theorem d_X2_moveHolder_99 : Dc cX2_moveHolder 99 3 102 (.getfield 18) := ⟨by decide +kernel, rfl⟩
theorem d_X2_moveHolder_102 : Dc cX2_moveHolder 102 3 105 (.invokevirtual 118) := ⟨by decide +kernel, rfl⟩
theorem d_X2_moveHolder_105 : Dc cX2_moveHolder 105 2 107 (.aload 4) := ⟨by decide +kernel, rfl⟩
theorem d_X2_moveHolder_107 : Dc cX2_moveHolder 107 3 110 (.getfield 121) := ⟨by decide +kernel, rfl⟩
theorem d_X2_moveHolder_110 : Dc cX2_moveHolder 110 1 111 (.iload_n 2) := ⟨by decide +kernel, rfl⟩
theorem d_X2_moveHolder_111 : Dc cX2_moveHolder 111 1 112 (.aload_n 0) := ⟨by decide +kernel, rfl⟩
theorem d_X2_moveHolder_112 : Dc cX2_moveHolder 112 3 115 (.getfield 18) := ⟨by decide +kernel, rfl⟩
theorem d_X2_moveHolder_115 : Dc cX2_moveHolder 115 3 118 (.invokevirtual 125) := ⟨by decide +kernel, rfl⟩
theorem d_X2_moveHolder_118 : Dc cX2_moveHolder 118 1 119 (.aload_n 0) := ⟨by decide +kernel, rfl⟩
theorem d_X2_moveHolder_119 : Dc cX2_moveHolder 119 1 120 .dup := ⟨by decide +kernel, rfl⟩
theorem d_X2_moveHolder_120 : Dc cX2_moveHolder 120 3 123 (.getfield 25) := ⟨by decide +kernel, rfl⟩
theorem d_X2_moveHolder_123 : Dc cX2_moveHolder 123 2 125 (.iload 5) := ⟨by decide +kernel, rfl⟩
theorem d_X2_moveHolder_125 : Dc cX2_moveHolder 125 1 126 .iadd := ⟨by decide +kernel, rfl⟩
theorem d_X2_moveHolder_126 : Dc cX2_moveHolder 126 3 129 (.putfield 25) := ⟨by decide +kernel, rfl⟩
theorem d_X2_moveHolder_129 : Dc cX2_moveHolder 129 2 131 (.aload 4) := ⟨by decide +kernel, rfl⟩
theorem d_X2_moveHolder_131 : Dc cX2_moveHolder 131 3 134 (.getfield 58) := ⟨by decide +kernel, rfl⟩
theorem d_X2_moveHolder_134 : Dc cX2_moveHolder 134 3 137 (.invokevirtual 62) := ⟨by decide +kernel, rfl⟩
theorem d_X2_moveHolder_137 : decode cX2_moveHolder 137 = .ok (.ireturn, 1) := by decide +kernel
set_option maxHeartbeats 4000000 in
set_option maxRecDepth 20000 in
theorem c_X2_moveHolder {E : Ev} {n : Nat} {M : Mem} {m : Nat} {dy iss fg : Int} {cl : Int64} {C : Nat → HC} (hS : StM E M m dy iss fg cl C) {s : Int → Int} (hR : StR M s dy iss fg C) (hO : Ok s) (hCl : CloR s cl) (hB : ∀ i, i < 6 → ∀ k u, hcv (C i) k = some u → u < m ∨ m + 62 ≤ u) {p c f : Int} (h1 : rg p) (h2 : rg c) (h3 : rg f) : MT E yX2_moveHolder cX2_moveHolder 7 (some .int) 5 0 0 [.ref m, .int (iI p), .int (iI c), .int (iI f)] n M ((PF (some (.int (iI ((if errCross s p c f ≠ 0 then errCross s p c f else hcb (movC (C p.toNat) (s (103 * p + 2)) c dy f), if errCross s p c f ≠ 0 then M else stU E M m dy iss (fg + (f % 2 + f / 2)) cl (upC C p.toNat (movC (C p.toNat) (s (103 * p + 2)) c dy f)))).1))) n ((if errCross s p c f ≠ 0 then errCross s p c f else hcb (movC (C p.toNat) (s (103 * p + 2)) c dy f), if errCross s p c f ≠ 0 then M else stU E M m dy iss (fg + (f % 2 + f / 2)) cl (upC C p.toNat (movC (C p.toNat) (s (103 * p + 2)) c dy f)))).2)) := by
  refine MT.of (by decide) rfl (Nat.le_of_ble_eq_true rfl) ?_
  intro X g
  have g0 := g.1
  show V E X 0 0 n M 0 [some (.ref m), some (.int (iI p)), some (.int (iI c)), some (.int (iI f)), none, none, none] []
  have a0 := hS.h0
  have a1 := hS.h1
  have hm := hO.many
  have hdy := hO.day
  obtain ⟨⟨ed, ei, ef⟩, hRow, hH⟩ := hR
  refine V.eqM (st_id hS).symm ?_
  refine V.al0 g0 d_X2_moveHolder_0 ?_
  refine V.il1 g0 d_X2_moveHolder_1 ?_
  refine V.callVp g0 (c_X2_holderOf st_M (by omega) h1) ky_X2_holderOf ki_X2_holderOf ks2_X2_holderOf lk_X2_54 (by first | exact st_M.h0 | exact st_M.h1 | assumption) rfl rfl (Nat.le_of_ble_eq_true rfl) ⟨Nat.zero_le _, Nat.zero_le _⟩ rfl rfl (Nat.le_of_ble_eq_true rfl) d_X2_moveHolder_2 ?_
  rcases holQ_c m iss p with ⟨hp, he⟩ | ⟨i, hi, hp, he⟩
  · skip
    rw [he, show va_rf none = Value.null from rfl]
    refine V.asN4 g0 d_X2_moveHolder_5 ?_
    refine V.alN4 g0 d_X2_moveHolder_7 ?_
    refine V.ifnullN g0 d_X2_moveHolder_9 ?_
    refine V.iconst g0 d_X2_moveHolder_19 ?_
    refine V.iret g d_X2_moveHolder_20 (Nat.zero_le _) (Nat.zero_le _) ?_
    have e : errCross s p c f = -1 := if_pos (fun q => hp (by omega))
    rw [e, if_pos (by omega), if_pos (by omega)]; exact ⟨rfl, rfl, st_id hS⟩
  · skip
    subst hp
    rw [he, show va_rf (some (hbs m i)) = Value.ref (hbs m i) from rfl]
    have hq : 0 ≤ (i : Int) ∧ (i : Int) ≤ iss - 1 := by omega
    have hho := (st_M (E := E) (M := M) (t := m) (dy := dy) (iss := iss) (fg := fg) (cl := cl) (C := C)).ho (i := i) (by omega)
    have hrow := hRow i (by omega)
    obtain ⟨hHR, hVR⟩ := hH i (by omega)
    have hk := hO.at (p := (i : Int)) (by omega) (by omega)
    have g0a := hho.h0
    have g4a := hho.h4
    have hjO := HolR.jOk hHR hk
    have hbO := HolR.bOk hHR hk
    have b0 := hk.home
    have b2 := hk.whr
    have b3 := hk.crs
    have b8 := hk.stm
    have e3 : hcj (C i) = s (103 * (i : Int) + 3) := hHR.1.2.2.2.1
    have e8 : hcb (C i) = s (103 * (i : Int) + 8) := hHR.1.2.2.2.2
    refine V.as4 g0 d_X2_moveHolder_5 ?_
    refine V.al4 g0 d_X2_moveHolder_7 ?_
    refine V.ifnull g0 d_X2_moveHolder_9 ?_
    refine V.il2 g0 d_X2_moveHolder_12 ?_
    refine V.callSNp g0 (c_X6_isCountry h2) ky_X6_isCountry ks_X6_isCountry lk_X2_46 (Nat.le_of_ble_eq_true rfl) ⟨Nat.zero_le _, Nat.zero_le _⟩ rfl rfl (Nat.le_of_ble_eq_true rfl) d_X2_moveHolder_13 ?_
    refine V.ifneB g0 d_X2_moveHolder_16 (fun c_16 => ?_) (fun c_16 => ?_)
    · skip
      refine V.il3 g0 d_X2_moveHolder_21 ?_
      refine V.iconst g0 d_X2_moveHolder_22 ?_
      refine V.iconst g0 d_X2_moveHolder_23 ?_
      refine V.callSNp g0 (c_X6_isWithin h3 (by decide) (by decide)) ky_X6_isWithin ks_X6_isWithin lk_X2_36 (Nat.le_of_ble_eq_true rfl) ⟨Nat.zero_le _, Nat.zero_le _⟩ rfl rfl (Nat.le_of_ble_eq_true rfl) d_X2_moveHolder_24 ?_
      refine V.ifneB g0 d_X2_moveHolder_27 (fun c_27 => ?_) (fun c_27 => ?_)
      · skip
        have hA : ¬ ¬ ((0 ≤ (i : Int) ∧ (i : Int) ≤ s 619 - 1) ∧ (0 ≤ c ∧ c ≤ 5)) := fun q => q ⟨by omega, c_16⟩
        refine V.il3 g0 d_X2_moveHolder_33 ?_
        refine V.callSp g0 (c_J6_bitCount_0f7a4 c_27) ky_J6_bitCount_0f7a4 ks_J6_bitCount_0f7a4 lk_X2_103 (Nat.le_of_ble_eq_true rfl) ⟨Nat.zero_le _, Nat.zero_le _⟩ rfl rfl (Nat.le_of_ble_eq_true rfl) d_X2_moveHolder_34 ?_
        refine V.is5 g0 d_X2_moveHolder_37 ?_
        refine V.al0 g0 d_X2_moveHolder_39 ?_
        refine V.al4 g0 d_X2_moveHolder_40 ?_
        refine V.il2 g0 d_X2_moveHolder_42 ?_
        refine V.iconst g0 d_X2_moveHolder_43 ?_
        refine V.il5 g0 d_X2_moveHolder_44 ?_
        refine V.isub g0 d_X2_moveHolder_46 ?_
        have hR2 : StR (stU E M m dy iss fg cl C) s dy iss fg C := ⟨⟨ed, ei, ef⟩, hRow, fun j hj => ⟨(hH j hj).1, VisR.fr (hH j hj).2 (fun k u hu => ov_n (hB j (by omega) k u hu))⟩⟩
        rw [show (2 : Int) - (f % 2 + f / 2) = 2 - f % 2 - f / 2 by omega]
        have hhb := hindr_b s (i : Int) c (2 - f % 2 - f / 2)
        refine V.callVp g0 (c_X2_reasonAgainst st_M hR2 hO hCl hi c_16 (by omega)) ky_X2_reasonAgainst ki_X2_reasonAgainst ks2_X2_reasonAgainst lk_X2_108 (by first | exact st_M.h0 | exact st_M.h1 | assumption) rfl rfl (Nat.le_of_ble_eq_true rfl) ⟨Nat.zero_le _, Nat.zero_le _⟩ rfl rfl (Nat.le_of_ble_eq_true rfl) d_X2_moveHolder_47 ?_
        refine V.is6 g0 d_X2_moveHolder_50 ?_
        refine V.il6 g0 d_X2_moveHolder_52 ?_
        refine V.ifeq g0 d_X2_moveHolder_54 (by omega) (fun c_54 => ?_) (fun c_54 => ?_)
        · skip
          have e : errCross s (i : Int) c f = 0 := (if_neg hA).trans ((if_neg (fun q => q c_27)).trans (if_neg (by omega)))
          have hg := errCross_ok hO e
          refine V.eqM (show stU E M m dy iss fg cl C = stU E M m dy iss fg cl (upC C i (C i)) by rw [upC_id]) ?_
          have hrw := hrow.1
          have q0 := (st_hc (E := E) (M := M) (t := m) (dy := dy) (iss := iss) (fg := fg) (cl := cl) (C := C) (i := i) (c := C i) (by omega))
          refine V.il3 g0 d_X2_moveHolder_63 ?_
          refine V.iconst g0 d_X2_moveHolder_64 ?_
          refine V.iand g0 d_X2_moveHolder_65 (and1 c_27) ?_
          refine V.ifne g0 d_X2_moveHolder_66 (by omega) (fun c_66 => ?_) (fun c_66 => ?_)
          · skip
            refine V.il3 g0 d_X2_moveHolder_86 ?_
            refine V.iconst g0 d_X2_moveHolder_87 ?_
            refine V.iand g0 d_X2_moveHolder_88 (and2 c_27) ?_
            refine V.ifne g0 d_X2_moveHolder_89 (by omega) (fun c_89 => ?_) (fun c_89 => ?_)
            · skip
              skip
              refine V.al4 g0 d_X2_moveHolder_105 ?_
              refine V.getf g0 d_X2_moveHolder_107 fl_X2_121 (st_hc (E := E) (M := M) (t := m) (dy := dy) (iss := iss) (fg := fg) (cl := cl) (C := C) (i := i) (c := (C i)) (by omega)).h0 (by rfl) ?_
              refine V.il2 g0 d_X2_moveHolder_110 ?_
              refine V.al0 g0 d_X2_moveHolder_111 ?_
              refine V.getf g0 d_X2_moveHolder_112 fl_X2_18 (by first | exact st_M.h0 | exact st_M.h1 | assumption) (by rfl) ?_
              refine V.callVf g0 (c_X4_add (k := hcj (C i)) (st_hc (E := E) (M := M) (t := m) (dy := dy) (iss := iss) (fg := fg) (cl := cl) (C := C) (i := i) (c := (C i)) (by omega)).tr hjO (by omega)) ky_X4_add ki_X4_add ks2_X4_add lk_X2_125 (st_hc (E := E) (M := M) (t := m) (dy := dy) (iss := iss) (fg := fg) (cl := cl) (C := C) (i := i) (c := (C i)) (by omega)).h1 rfl rfl (Nat.le_of_ble_eq_true rfl) ⟨Nat.zero_le _, Nat.zero_le _⟩ rfl rfl (Nat.le_of_ble_eq_true rfl) d_X2_moveHolder_115 ?_
              refine V.eqM (st_uj (by omega)) ?_
              refine V.al0 g0 d_X2_moveHolder_118 ?_
              refine V.dup g0 d_X2_moveHolder_119 rfl ?_
              refine V.getf g0 d_X2_moveHolder_120 fl_X2_25 (by first | exact st_M.h0 | exact st_M.h1 | assumption) (by rfl) ?_
              refine V.il5 g0 d_X2_moveHolder_123 ?_
              refine V.iadd g0 d_X2_moveHolder_125 ?_
              refine V.putf g0 d_X2_moveHolder_126 fp_X2_25 (by first | exact st_M.h0 | exact st_M.h1 | assumption) (Nat.le_of_ble_eq_true rfl) rfl rfl ?_
              first | refine V.eqM st_u0 ?_
              refine V.al4 g0 d_X2_moveHolder_129 ?_
              refine V.getf g0 d_X2_moveHolder_131 fl_X2_58 (st_hc (E := E) (M := M) (t := m) (dy := dy) (iss := iss) (fg := fg + (f % 2 + f / 2)) (cl := cl) (C := C) (i := i) (c := (joC (C i) c dy)) (by omega)).h0 (by rfl) ?_
              refine V.callVp g0 (c_X0_stamps (st_hc (E := E) (M := M) (t := m) (dy := dy) (iss := iss) (fg := fg + (f % 2 + f / 2)) (cl := cl) (C := C) (i := i) (c := (joC (C i) c dy)) (by omega)).bo hbO) ky_X0_stamps ki_X0_stamps ks2_X0_stamps lk_X2_62 (st_hc (E := E) (M := M) (t := m) (dy := dy) (iss := iss) (fg := fg + (f % 2 + f / 2)) (cl := cl) (C := C) (i := i) (c := (joC (C i) c dy)) (by omega)).h4 rfl rfl (Nat.le_of_ble_eq_true rfl) ⟨Nat.zero_le _, Nat.zero_le _⟩ rfl rfl (Nat.le_of_ble_eq_true rfl) d_X2_moveHolder_134 ?_
              refine V.iret g d_X2_moveHolder_137 (Nat.zero_le _) (Nat.zero_le _) ?_
              have em : movC (C i) (s (103 * (i : Int) + 2)) c dy f = joC (C i) c dy := by rw [movC, mvB, if_neg (by omega), mvA, if_neg (by omega)]
              rw [if_neg (fun q => q e), if_neg (fun q => q e), show (i : Int).toNat = i from rfl, em]; exact ⟨rfl, rfl, rfl⟩
            · skip
              have hx1 : hcb (C i) = hcb (C i) := rfl
              refine V.al4 g0 d_X2_moveHolder_92 ?_
              refine V.getf g0 d_X2_moveHolder_94 fl_X2_58 (st_hc (E := E) (M := M) (t := m) (dy := dy) (iss := iss) (fg := fg) (cl := cl) (C := C) (i := i) (c := (C i)) (by omega)).h0 (by rfl) ?_
              refine V.il2 g0 d_X2_moveHolder_97 ?_
              refine V.al0 g0 d_X2_moveHolder_98 ?_
              refine V.getf g0 d_X2_moveHolder_99 fl_X2_18 (by first | exact st_M.h0 | exact st_M.h1 | assumption) (by rfl) ?_
              refine V.callVf g0 (c_X0_addEntry (st_hc (E := E) (M := M) (t := m) (dy := dy) (iss := iss) (fg := fg) (cl := cl) (C := C) (i := i) (c := (C i)) (by omega)).bo hbO (show hcb (C i) < 16 by omega)) ky_X0_addEntry ki_X0_addEntry ks2_X0_addEntry lk_X2_118 (st_hc (E := E) (M := M) (t := m) (dy := dy) (iss := iss) (fg := fg) (cl := cl) (C := C) (i := i) (c := (C i)) (by omega)).h4 rfl rfl (Nat.le_of_ble_eq_true rfl) ⟨Nat.zero_le _, Nat.zero_le _⟩ rfl rfl (Nat.le_of_ble_eq_true rfl) d_X2_moveHolder_102 ?_
              refine V.eqM (st_ub (by omega)) ?_
              refine V.al4 g0 d_X2_moveHolder_105 ?_
              refine V.getf g0 d_X2_moveHolder_107 fl_X2_121 (st_hc (E := E) (M := M) (t := m) (dy := dy) (iss := iss) (fg := fg) (cl := cl) (C := C) (i := i) (c := (enC (C i) c dy)) (by omega)).h0 (by rfl) ?_
              refine V.il2 g0 d_X2_moveHolder_110 ?_
              refine V.al0 g0 d_X2_moveHolder_111 ?_
              refine V.getf g0 d_X2_moveHolder_112 fl_X2_18 (by first | exact st_M.h0 | exact st_M.h1 | assumption) (by rfl) ?_
              refine V.callVf g0 (c_X4_add (k := hcj (C i)) (st_hc (E := E) (M := M) (t := m) (dy := dy) (iss := iss) (fg := fg) (cl := cl) (C := C) (i := i) (c := (enC (C i) c dy)) (by omega)).tr hjO (by omega)) ky_X4_add ki_X4_add ks2_X4_add lk_X2_125 (st_hc (E := E) (M := M) (t := m) (dy := dy) (iss := iss) (fg := fg) (cl := cl) (C := C) (i := i) (c := (enC (C i) c dy)) (by omega)).h1 rfl rfl (Nat.le_of_ble_eq_true rfl) ⟨Nat.zero_le _, Nat.zero_le _⟩ rfl rfl (Nat.le_of_ble_eq_true rfl) d_X2_moveHolder_115 ?_
              refine V.eqM (st_uj (by omega)) ?_
              refine V.al0 g0 d_X2_moveHolder_118 ?_
              refine V.dup g0 d_X2_moveHolder_119 rfl ?_
              refine V.getf g0 d_X2_moveHolder_120 fl_X2_25 (by first | exact st_M.h0 | exact st_M.h1 | assumption) (by rfl) ?_
              refine V.il5 g0 d_X2_moveHolder_123 ?_
              refine V.iadd g0 d_X2_moveHolder_125 ?_
              refine V.putf g0 d_X2_moveHolder_126 fp_X2_25 (by first | exact st_M.h0 | exact st_M.h1 | assumption) (Nat.le_of_ble_eq_true rfl) rfl rfl ?_
              first | refine V.eqM st_u0 ?_
              refine V.al4 g0 d_X2_moveHolder_129 ?_
              refine V.getf g0 d_X2_moveHolder_131 fl_X2_58 (st_hc (E := E) (M := M) (t := m) (dy := dy) (iss := iss) (fg := fg + (f % 2 + f / 2)) (cl := cl) (C := C) (i := i) (c := (joC (enC (C i) c dy) c dy)) (by omega)).h0 (by rfl) ?_
              refine V.callVp g0 (c_X0_stamps (st_hc (E := E) (M := M) (t := m) (dy := dy) (iss := iss) (fg := fg + (f % 2 + f / 2)) (cl := cl) (C := C) (i := i) (c := (joC (enC (C i) c dy) c dy)) (by omega)).bo (enC_ok hbO (show hcb (C i) < 16 by omega) (by omega) c_16)) ky_X0_stamps ki_X0_stamps ks2_X0_stamps lk_X2_62 (st_hc (E := E) (M := M) (t := m) (dy := dy) (iss := iss) (fg := fg + (f % 2 + f / 2)) (cl := cl) (C := C) (i := i) (c := (joC (enC (C i) c dy) c dy)) (by omega)).h4 rfl rfl (Nat.le_of_ble_eq_true rfl) ⟨Nat.zero_le _, Nat.zero_le _⟩ rfl rfl (Nat.le_of_ble_eq_true rfl) d_X2_moveHolder_134 ?_
              refine V.iret g d_X2_moveHolder_137 (Nat.zero_le _) (Nat.zero_le _) ?_
              have em : movC (C i) (s (103 * (i : Int) + 2)) c dy f = joC (enC (C i) c dy) c dy := by rw [movC, mvB, if_pos (by omega), mvA, if_neg (by omega)]
              rw [if_neg (fun q => q e), if_neg (fun q => q e), show (i : Int).toNat = i from rfl, em]; exact ⟨rfl, rfl, rfl⟩
          · skip
            have hcx : hcb (C i) + 1 < 16 ∨ f / 2 ≠ 0 := by omega
            refine V.al4 g0 d_X2_moveHolder_69 ?_
            refine V.getf g0 d_X2_moveHolder_71 fl_X2_58 q0.h0 (by rfl) ?_
            refine V.al4 g0 d_X2_moveHolder_74 ?_
            refine V.callVp g0 (c_X1_placeS q0 hHR hk) ky_X1_place ki_X1_place ks2_X1_place lk_X2_112 q0.h0 rfl rfl (Nat.le_of_ble_eq_true rfl) ⟨Nat.zero_le _, Nat.zero_le _⟩ rfl rfl (Nat.le_of_ble_eq_true rfl) d_X2_moveHolder_76 ?_
            refine V.al0 g0 d_X2_moveHolder_79 ?_
            refine V.getf g0 d_X2_moveHolder_80 fl_X2_18 (by first | exact st_M.h0 | exact st_M.h1 | assumption) (by rfl) ?_
            refine V.callVf g0 (c_X0_addExit q0.bo hbO (show hcb (C i) < 16 by omega)) ky_X0_addExit ki_X0_addExit ks2_X0_addExit lk_X2_115 q0.h4 rfl rfl (Nat.le_of_ble_eq_true rfl) ⟨Nat.zero_le _, Nat.zero_le _⟩ rfl rfl (Nat.le_of_ble_eq_true rfl) d_X2_moveHolder_83 ?_
            refine V.eqM (st_ub (by omega)) ?_
            refine V.il3 g0 d_X2_moveHolder_86 ?_
            refine V.iconst g0 d_X2_moveHolder_87 ?_
            refine V.iand g0 d_X2_moveHolder_88 (and2 c_27) ?_
            refine V.ifne g0 d_X2_moveHolder_89 (by omega) (fun c_89 => ?_) (fun c_89 => ?_)
            · skip
              skip
              refine V.al4 g0 d_X2_moveHolder_105 ?_
              refine V.getf g0 d_X2_moveHolder_107 fl_X2_121 (st_hc (E := E) (M := M) (t := m) (dy := dy) (iss := iss) (fg := fg) (cl := cl) (C := C) (i := i) (c := (exC (C i) (s (103 * (i : Int) + 2)) dy)) (by omega)).h0 (by rfl) ?_
              refine V.il2 g0 d_X2_moveHolder_110 ?_
              refine V.al0 g0 d_X2_moveHolder_111 ?_
              refine V.getf g0 d_X2_moveHolder_112 fl_X2_18 (by first | exact st_M.h0 | exact st_M.h1 | assumption) (by rfl) ?_
              refine V.callVf g0 (c_X4_add (k := hcj (C i)) (st_hc (E := E) (M := M) (t := m) (dy := dy) (iss := iss) (fg := fg) (cl := cl) (C := C) (i := i) (c := (exC (C i) (s (103 * (i : Int) + 2)) dy)) (by omega)).tr hjO (by omega)) ky_X4_add ki_X4_add ks2_X4_add lk_X2_125 (st_hc (E := E) (M := M) (t := m) (dy := dy) (iss := iss) (fg := fg) (cl := cl) (C := C) (i := i) (c := (exC (C i) (s (103 * (i : Int) + 2)) dy)) (by omega)).h1 rfl rfl (Nat.le_of_ble_eq_true rfl) ⟨Nat.zero_le _, Nat.zero_le _⟩ rfl rfl (Nat.le_of_ble_eq_true rfl) d_X2_moveHolder_115 ?_
              refine V.eqM (st_uj (by omega)) ?_
              refine V.al0 g0 d_X2_moveHolder_118 ?_
              refine V.dup g0 d_X2_moveHolder_119 rfl ?_
              refine V.getf g0 d_X2_moveHolder_120 fl_X2_25 (by first | exact st_M.h0 | exact st_M.h1 | assumption) (by rfl) ?_
              refine V.il5 g0 d_X2_moveHolder_123 ?_
              refine V.iadd g0 d_X2_moveHolder_125 ?_
              refine V.putf g0 d_X2_moveHolder_126 fp_X2_25 (by first | exact st_M.h0 | exact st_M.h1 | assumption) (Nat.le_of_ble_eq_true rfl) rfl rfl ?_
              first | refine V.eqM st_u0 ?_
              refine V.al4 g0 d_X2_moveHolder_129 ?_
              refine V.getf g0 d_X2_moveHolder_131 fl_X2_58 (st_hc (E := E) (M := M) (t := m) (dy := dy) (iss := iss) (fg := fg + (f % 2 + f / 2)) (cl := cl) (C := C) (i := i) (c := (joC (exC (C i) (s (103 * (i : Int) + 2)) dy) c dy)) (by omega)).h0 (by rfl) ?_
              refine V.callVp g0 (c_X0_stamps (st_hc (E := E) (M := M) (t := m) (dy := dy) (iss := iss) (fg := fg + (f % 2 + f / 2)) (cl := cl) (C := C) (i := i) (c := (joC (exC (C i) (s (103 * (i : Int) + 2)) dy) c dy)) (by omega)).bo (exC_ok hbO (by omega) (by omega) b2)) ky_X0_stamps ki_X0_stamps ks2_X0_stamps lk_X2_62 (st_hc (E := E) (M := M) (t := m) (dy := dy) (iss := iss) (fg := fg + (f % 2 + f / 2)) (cl := cl) (C := C) (i := i) (c := (joC (exC (C i) (s (103 * (i : Int) + 2)) dy) c dy)) (by omega)).h4 rfl rfl (Nat.le_of_ble_eq_true rfl) ⟨Nat.zero_le _, Nat.zero_le _⟩ rfl rfl (Nat.le_of_ble_eq_true rfl) d_X2_moveHolder_134 ?_
              refine V.iret g d_X2_moveHolder_137 (Nat.zero_le _) (Nat.zero_le _) ?_
              have em : movC (C i) (s (103 * (i : Int) + 2)) c dy f = joC (exC (C i) (s (103 * (i : Int) + 2)) dy) c dy := by rw [movC, mvB, if_neg (by omega), mvA, if_pos (by omega)]
              rw [if_neg (fun q => q e), if_neg (fun q => q e), show (i : Int).toNat = i from rfl, em]; exact ⟨rfl, rfl, rfl⟩
            · skip
              have hx1 : hcb (exC (C i) (s (103 * (i : Int) + 2)) dy) = hcb (C i) + 1 := rfl
              refine V.al4 g0 d_X2_moveHolder_92 ?_
              refine V.getf g0 d_X2_moveHolder_94 fl_X2_58 (st_hc (E := E) (M := M) (t := m) (dy := dy) (iss := iss) (fg := fg) (cl := cl) (C := C) (i := i) (c := (exC (C i) (s (103 * (i : Int) + 2)) dy)) (by omega)).h0 (by rfl) ?_
              refine V.il2 g0 d_X2_moveHolder_97 ?_
              refine V.al0 g0 d_X2_moveHolder_98 ?_
              refine V.getf g0 d_X2_moveHolder_99 fl_X2_18 (by first | exact st_M.h0 | exact st_M.h1 | assumption) (by rfl) ?_
              refine V.callVf g0 (c_X0_addEntry (st_hc (E := E) (M := M) (t := m) (dy := dy) (iss := iss) (fg := fg) (cl := cl) (C := C) (i := i) (c := (exC (C i) (s (103 * (i : Int) + 2)) dy)) (by omega)).bo (exC_ok hbO (by omega) (by omega) b2) (show hcb (exC (C i) (s (103 * (i : Int) + 2)) dy) < 16 by omega)) ky_X0_addEntry ki_X0_addEntry ks2_X0_addEntry lk_X2_118 (st_hc (E := E) (M := M) (t := m) (dy := dy) (iss := iss) (fg := fg) (cl := cl) (C := C) (i := i) (c := (exC (C i) (s (103 * (i : Int) + 2)) dy)) (by omega)).h4 rfl rfl (Nat.le_of_ble_eq_true rfl) ⟨Nat.zero_le _, Nat.zero_le _⟩ rfl rfl (Nat.le_of_ble_eq_true rfl) d_X2_moveHolder_102 ?_
              refine V.eqM (st_ub (by omega)) ?_
              refine V.al4 g0 d_X2_moveHolder_105 ?_
              refine V.getf g0 d_X2_moveHolder_107 fl_X2_121 (st_hc (E := E) (M := M) (t := m) (dy := dy) (iss := iss) (fg := fg) (cl := cl) (C := C) (i := i) (c := (enC (exC (C i) (s (103 * (i : Int) + 2)) dy) c dy)) (by omega)).h0 (by rfl) ?_
              refine V.il2 g0 d_X2_moveHolder_110 ?_
              refine V.al0 g0 d_X2_moveHolder_111 ?_
              refine V.getf g0 d_X2_moveHolder_112 fl_X2_18 (by first | exact st_M.h0 | exact st_M.h1 | assumption) (by rfl) ?_
              refine V.callVf g0 (c_X4_add (k := hcj (C i)) (st_hc (E := E) (M := M) (t := m) (dy := dy) (iss := iss) (fg := fg) (cl := cl) (C := C) (i := i) (c := (enC (exC (C i) (s (103 * (i : Int) + 2)) dy) c dy)) (by omega)).tr hjO (by omega)) ky_X4_add ki_X4_add ks2_X4_add lk_X2_125 (st_hc (E := E) (M := M) (t := m) (dy := dy) (iss := iss) (fg := fg) (cl := cl) (C := C) (i := i) (c := (enC (exC (C i) (s (103 * (i : Int) + 2)) dy) c dy)) (by omega)).h1 rfl rfl (Nat.le_of_ble_eq_true rfl) ⟨Nat.zero_le _, Nat.zero_le _⟩ rfl rfl (Nat.le_of_ble_eq_true rfl) d_X2_moveHolder_115 ?_
              refine V.eqM (st_uj (by omega)) ?_
              refine V.al0 g0 d_X2_moveHolder_118 ?_
              refine V.dup g0 d_X2_moveHolder_119 rfl ?_
              refine V.getf g0 d_X2_moveHolder_120 fl_X2_25 (by first | exact st_M.h0 | exact st_M.h1 | assumption) (by rfl) ?_
              refine V.il5 g0 d_X2_moveHolder_123 ?_
              refine V.iadd g0 d_X2_moveHolder_125 ?_
              refine V.putf g0 d_X2_moveHolder_126 fp_X2_25 (by first | exact st_M.h0 | exact st_M.h1 | assumption) (Nat.le_of_ble_eq_true rfl) rfl rfl ?_
              first | refine V.eqM st_u0 ?_
              refine V.al4 g0 d_X2_moveHolder_129 ?_
              refine V.getf g0 d_X2_moveHolder_131 fl_X2_58 (st_hc (E := E) (M := M) (t := m) (dy := dy) (iss := iss) (fg := fg + (f % 2 + f / 2)) (cl := cl) (C := C) (i := i) (c := (joC (enC (exC (C i) (s (103 * (i : Int) + 2)) dy) c dy) c dy)) (by omega)).h0 (by rfl) ?_
              refine V.callVp g0 (c_X0_stamps (st_hc (E := E) (M := M) (t := m) (dy := dy) (iss := iss) (fg := fg + (f % 2 + f / 2)) (cl := cl) (C := C) (i := i) (c := (joC (enC (exC (C i) (s (103 * (i : Int) + 2)) dy) c dy) c dy)) (by omega)).bo (enC_ok (exC_ok hbO (by omega) (by omega) b2) (show hcb (exC (C i) (s (103 * (i : Int) + 2)) dy) < 16 by omega) (by omega) c_16)) ky_X0_stamps ki_X0_stamps ks2_X0_stamps lk_X2_62 (st_hc (E := E) (M := M) (t := m) (dy := dy) (iss := iss) (fg := fg + (f % 2 + f / 2)) (cl := cl) (C := C) (i := i) (c := (joC (enC (exC (C i) (s (103 * (i : Int) + 2)) dy) c dy) c dy)) (by omega)).h4 rfl rfl (Nat.le_of_ble_eq_true rfl) ⟨Nat.zero_le _, Nat.zero_le _⟩ rfl rfl (Nat.le_of_ble_eq_true rfl) d_X2_moveHolder_134 ?_
              refine V.iret g d_X2_moveHolder_137 (Nat.zero_le _) (Nat.zero_le _) ?_
              have em : movC (C i) (s (103 * (i : Int) + 2)) c dy f = joC (enC (exC (C i) (s (103 * (i : Int) + 2)) dy) c dy) c dy := by rw [movC, mvB, if_pos (by omega), mvA, if_pos (by omega)]
              rw [if_neg (fun q => q e), if_neg (fun q => q e), show (i : Int).toNat = i from rfl, em]; exact ⟨rfl, rfl, rfl⟩
        · skip
          have e : errCross s (i : Int) c f = -10 - hindr s (i : Int) c (2 - f % 2 - f / 2) := (if_neg hA).trans ((if_neg (fun q => q c_27)).trans (if_pos (by omega)))
          refine V.bipush g0 d_X2_moveHolder_57 (by decide) ?_
          refine V.il6 g0 d_X2_moveHolder_59 ?_
          refine V.isub g0 d_X2_moveHolder_61 ?_
          refine V.iret g d_X2_moveHolder_62 (Nat.zero_le _) (Nat.zero_le _) ?_
          rw [e, if_pos (by omega), if_pos (by omega)]; exact ⟨rfl, rfl, st_id hS⟩
      · skip
        have hA : ¬ ¬ ((0 ≤ (i : Int) ∧ (i : Int) ≤ s 619 - 1) ∧ (0 ≤ c ∧ c ≤ 5)) := fun q => q ⟨by omega, c_16⟩
        refine V.bipush g0 d_X2_moveHolder_30 (by decide) ?_
        refine V.iret g d_X2_moveHolder_32 (Nat.zero_le _) (Nat.zero_le _) ?_
        have e : errCross s (i : Int) c f = -2 := (if_neg hA).trans (if_pos c_27)
        rw [e, if_pos (by omega), if_pos (by omega)]; exact ⟨rfl, rfl, st_id hS⟩
    · skip
      refine V.iconst g0 d_X2_moveHolder_19 ?_
      refine V.iret g d_X2_moveHolder_20 (Nat.zero_le _) (Nat.zero_le _) ?_
      have e : errCross s (i : Int) c f = -1 := if_pos (fun q => c_16 q.2)
      rw [e, if_pos (by omega), if_pos (by omega)]; exact ⟨rfl, rfl, st_id hS⟩
