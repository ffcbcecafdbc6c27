theorem d_X2_isBesideOneOf_0 : Dc cX2_isBesideOneOf 0 1 1 (.iconst 0) := ⟨by decide +kernel, rfl⟩
theorem d_X2_isBesideOneOf_1 : Dc cX2_isBesideOneOf 1 1 2 (.istore_n 3) := ⟨by decide +kernel, rfl⟩
theorem d_X2_isBesideOneOf_2 : Dc cX2_isBesideOneOf 2 1 3 (.iload_n 3) := ⟨by decide +kernel, rfl⟩
theorem d_X2_isBesideOneOf_3 : Dc cX2_isBesideOneOf 3 2 5 (.bipush 6) := ⟨by decide +kernel, rfl⟩
theorem d_X2_isBesideOneOf_5 : Dj cX2_isBesideOneOf 5 8 33 (.if_icmp .ge) := ⟨28, by decide +kernel, rfl, by decide⟩
theorem d_X2_isBesideOneOf_8 : Dc cX2_isBesideOneOf 8 1 9 (.iload_n 1) := ⟨by decide +kernel, rfl⟩
theorem d_X2_isBesideOneOf_9 : Dc cX2_isBesideOneOf 9 1 10 (.iconst 1) := ⟨by decide +kernel, rfl⟩
theorem d_X2_isBesideOneOf_10 : Dc cX2_isBesideOneOf 10 1 11 (.iload_n 3) := ⟨by decide +kernel, rfl⟩
theorem d_X2_isBesideOneOf_11 : Dc cX2_isBesideOneOf 11 1 12 .ishl := ⟨by decide +kernel, rfl⟩
theorem d_X2_isBesideOneOf_12 : Dc cX2_isBesideOneOf 12 1 13 .iand := ⟨by decide +kernel, rfl⟩
theorem d_X2_isBesideOneOf_13 : Dj cX2_isBesideOneOf 13 16 27 (.ifCond .eq) := ⟨14, by decide +kernel, rfl, by decide⟩
theorem d_X2_isBesideOneOf_16 : Dc cX2_isBesideOneOf 16 1 17 (.aload_n 0) := ⟨by decide +kernel, rfl⟩
theorem d_X2_isBesideOneOf_17 : Dc cX2_isBesideOneOf 17 1 18 (.iload_n 3) := ⟨by decide +kernel, rfl⟩
theorem d_X2_isBesideOneOf_18 : Dc cX2_isBesideOneOf 18 1 19 (.iload_n 2) := ⟨by decide +kernel, rfl⟩
theorem d_X2_isBesideOneOf_19 : Dc cX2_isBesideOneOf 19 3 22 (.invokevirtual 139) := ⟨by decide +kernel, rfl⟩
theorem d_X2_isBesideOneOf_22 : Dj cX2_isBesideOneOf 22 25 27 (.ifCond .eq) := ⟨5, by decide +kernel, rfl, by decide⟩
theorem d_X2_isBesideOneOf_25 : Dc cX2_isBesideOneOf 25 1 26 (.iconst 1) := ⟨by decide +kernel, rfl⟩
theorem d_X2_isBesideOneOf_26 : decode cX2_isBesideOneOf 26 = .ok (.ireturn, 1) := by decide +kernel
theorem d_X2_isBesideOneOf_27 : Dc cX2_isBesideOneOf 27 3 30 (.iinc 3 1) := ⟨by decide +kernel, rfl⟩
theorem d_X2_isBesideOneOf_30 : Dj cX2_isBesideOneOf 30 33 2 .goto := ⟨(-28), by decide +kernel, rfl, by decide⟩
theorem d_X2_isBesideOneOf_33 : Dc cX2_isBesideOneOf 33 1 34 (.iconst 0) := ⟨by decide +kernel, rfl⟩
theorem d_X2_isBesideOneOf_34 : decode cX2_isBesideOneOf 34 = .ok (.ireturn, 1) := by decide +kernel
set_option maxHeartbeats 4000000 in
set_option maxRecDepth 20000 in
theorem c_X2_isBesideOneOf {E : Ev} {n : Nat} {M : Mem} {m : Nat} {dy iss fg : Int} {cl : Int64} {C : Nat → HC} (hS : StM E M m dy iss fg cl C) {S : Nat} (hSb : S < 64) {c : Int} (hc : 0 ≤ c ∧ c ≤ 5) : MT E yX2_isBesideOneOf cX2_isBesideOneOf 4 (some .boolean) 3 0 0 [.ref m, .int (iI (S : Int)), .int (iI c)] n M (PF (some (.int (iI (bI (bes cl S c 6 = true))))) n (M)) := by
  refine MT.of (by decide) rfl (Nat.le_of_ble_eq_true rfl) ?_
  intro X g
  have g0 := g.1
  show V E X 0 0 n M 0 [some (.ref m), some (.int (iI (S : Int))), some (.int (iI c)), none] []
  have a0 := hS.h0
  have a1 := hS.h1
  refine V.iconst g0 d_X2_isBesideOneOf_0 ?_
  refine V.is3 g0 d_X2_isBesideOneOf_1 ?_
  have LP : ∀ (f i : Nat), i + f = 6 → bes cl S c i = false → V E X 0 0 n (M) 2 [some (.ref m), some (.int (iI (S : Int))), some (.int (iI c)), some (.int (iI (i : Int)))] [] := by
    intro f
    induction f using Nat.strongRecOn with
    | _ f ih =>
    intro i hf hz
    have hab := and_b (k := i) hSb
    refine V.il3 g0 d_X2_isBesideOneOf_2 ?_
    refine V.bipush g0 d_X2_isBesideOneOf_3 (by decide) ?_
    refine V.icmpge g0 d_X2_isBesideOneOf_5 (by omega) (fun c_5 => ?_) (fun c_5 => ?_)
    · skip
      refine V.iconst g0 d_X2_isBesideOneOf_33 ?_
      refine V.zret g d_X2_isBesideOneOf_34 (by first | exact Or.inl rfl | exact Or.inr rfl | exact bI_01 _) (Nat.zero_le _) (Nat.zero_le _) ⟨congrArg (fun z => some (Value.int (iI z))) ?_, rfl, rfl⟩
      exact (bI_f (by rw [show 6 = i by omega, hz]; decide)).symm
    · skip
      refine V.il1 g0 d_X2_isBesideOneOf_8 ?_
      refine V.iconst g0 d_X2_isBesideOneOf_9 ?_
      refine V.il3 g0 d_X2_isBesideOneOf_10 ?_
      refine V.ishl g0 d_X2_isBesideOneOf_11 (iI_shl1n (by omega)) ?_
      refine V.iand g0 d_X2_isBesideOneOf_12 iI_and ?_
      refine V.ifeq g0 d_X2_isBesideOneOf_13 (by omega) (fun c_13 => ?_) (fun c_13 => ?_)
      · skip
        refine V.inc3 g0 d_X2_isBesideOneOf_27 ?_
        refine V.goto g0 d_X2_isBesideOneOf_30 ?_
        exact ih (f - 1) (by omega) (i + 1) (by omega) (bes_n hz (Or.inl (tb_0 c_13)))
      · skip
        refine V.al0 g0 d_X2_isBesideOneOf_16 ?_
        refine V.il3 g0 d_X2_isBesideOneOf_17 ?_
        refine V.il2 g0 d_X2_isBesideOneOf_18 ?_
        refine V.callVp g0 (c_X2_isOpen hS (by omega) hc) ky_X2_isOpen ki_X2_isOpen ks2_X2_isOpen lk_X2_139 (by assumption) rfl rfl (Nat.le_of_ble_eq_true rfl) ⟨Nat.zero_le _, Nat.zero_le _⟩ rfl rfl (Nat.le_of_ble_eq_true rfl) d_X2_isBesideOneOf_19 ?_
        refine V.ifeqB g0 d_X2_isBesideOneOf_22 (fun c_22 => ?_) (fun c_22 => ?_)
        · skip
          refine V.inc3 g0 d_X2_isBesideOneOf_27 ?_
          refine V.goto g0 d_X2_isBesideOneOf_30 ?_
          exact ih (f - 1) (by omega) (i + 1) (by omega) (bes_n hz (Or.inr c_22))
        · skip
          refine V.iconst g0 d_X2_isBesideOneOf_25 ?_
          refine V.zret g d_X2_isBesideOneOf_26 (by first | exact Or.inl rfl | exact Or.inr rfl | exact bI_01 _) (Nat.zero_le _) (Nat.zero_le _) ⟨congrArg (fun z => some (Value.int (iI z))) ?_, rfl, rfl⟩
          exact (bI_t (bes_6 (f - 1) (k := i + 1) (by omega) (bes_y (tb_1 c_13) c_22))).symm
  exact LP 6 0 (by omega) rfl

theorem d_X2_oneCrossingFrom_0 : Dc cX2_oneCrossingFrom 0 1 1 (.iconst 0) := ⟨by decide +kernel, rfl⟩
theorem d_X2_oneCrossingFrom_1 : Dc cX2_oneCrossingFrom 1 1 2 (.istore_n 3) := ⟨by decide +kernel, rfl⟩
theorem d_X2_oneCrossingFrom_2 : Dc cX2_oneCrossingFrom 2 1 3 (.iconst 0) := ⟨by decide +kernel, rfl⟩
theorem d_X2_oneCrossingFrom_3 : Dc cX2_oneCrossingFrom 3 2 5 (.istore 4) := ⟨by decide +kernel, rfl⟩
theorem d_X2_oneCrossingFrom_5 : Dc cX2_oneCrossingFrom 5 2 7 (.iload 4) := ⟨by decide +kernel, rfl⟩
theorem d_X2_oneCrossingFrom_7 : Dc cX2_oneCrossingFrom 7 2 9 (.bipush 6) := ⟨by decide +kernel, rfl⟩
theorem d_X2_oneCrossingFrom_9 : Dj cX2_oneCrossingFrom 9 12 48 (.if_icmp .ge) := ⟨39, by decide +kernel, rfl, by decide⟩
theorem d_X2_oneCrossingFrom_12 : Dc cX2_oneCrossingFrom 12 1 13 (.aload_n 2) := ⟨by decide +kernel, rfl⟩
theorem d_X2_oneCrossingFrom_13 : Dc cX2_oneCrossingFrom 13 2 15 (.iload 4) := ⟨by decide +kernel, rfl⟩
theorem d_X2_oneCrossingFrom_15 : Dc cX2_oneCrossingFrom 15 1 16 (.aload_n 0) := ⟨by decide +kernel, rfl⟩
theorem d_X2_oneCrossingFrom_16 : Dc cX2_oneCrossingFrom 16 3 19 (.getfield 18) := ⟨by decide +kernel, rfl⟩
theorem d_X2_oneCrossingFrom_19 : Dc cX2_oneCrossingFrom 19 3 22 (.invokevirtual 133) := ⟨by decide +kernel, rfl⟩
theorem d_X2_oneCrossingFrom_22 : Dj cX2_oneCrossingFrom 22 25 42 (.ifCond .eq) := ⟨20, by decide +kernel, rfl, by decide⟩
theorem d_X2_oneCrossingFrom_25 : Dc cX2_oneCrossingFrom 25 1 26 (.aload_n 0) := ⟨by decide +kernel, rfl⟩
theorem d_X2_oneCrossingFrom_26 : Dc cX2_oneCrossingFrom 26 1 27 (.iload_n 1) := ⟨by decide +kernel, rfl⟩
theorem d_X2_oneCrossingFrom_27 : Dc cX2_oneCrossingFrom 27 2 29 (.iload 4) := ⟨by decide +kernel, rfl⟩
theorem d_X2_oneCrossingFrom_29 : Dc cX2_oneCrossingFrom 29 3 32 (.invokevirtual 152) := ⟨by decide +kernel, rfl⟩
theorem d_X2_oneCrossingFrom_32 : Dj cX2_oneCrossingFrom 32 35 42 (.ifCond .eq) := ⟨10, by decide +kernel, rfl, by decide⟩
theorem d_X2_oneCrossingFrom_35 : Dc cX2_oneCrossingFrom 35 1 36 (.iload_n 3) := ⟨by decide +kernel, rfl⟩
theorem d_X2_oneCrossingFrom_36 : Dc cX2_oneCrossingFrom 36 1 37 (.iconst 1) := ⟨by decide +kernel, rfl⟩
theorem d_X2_oneCrossingFrom_37 : Dc cX2_oneCrossingFrom 37 2 39 (.iload 4) := ⟨by decide +kernel, rfl⟩
theorem d_X2_oneCrossingFrom_39 : Dc cX2_oneCrossingFrom 39 1 40 .ishl := ⟨by decide +kernel, rfl⟩
theorem d_X2_oneCrossingFrom_40 : Dc cX2_oneCrossingFrom 40 1 41 .ior := ⟨by decide +kernel, rfl⟩
theorem d_X2_oneCrossingFrom_41 : Dc cX2_oneCrossingFrom 41 1 42 (.istore_n 3) := ⟨by decide +kernel, rfl⟩
theorem d_X2_oneCrossingFrom_42 : Dc cX2_oneCrossingFrom 42 3 45 (.iinc 4 1) := ⟨by decide +kernel, rfl⟩
theorem d_X2_oneCrossingFrom_45 : Dj cX2_oneCrossingFrom 45 48 5 .goto := ⟨(-40), by decide +kernel, rfl, by decide⟩
theorem d_X2_oneCrossingFrom_48 : Dc cX2_oneCrossingFrom 48 1 49 (.iload_n 3) := ⟨by decide +kernel, rfl⟩
theorem d_X2_oneCrossingFrom_49 : decode cX2_oneCrossingFrom 49 = .ok (.ireturn, 1) := by decide +kernel
set_option maxHeartbeats 4000000 in
set_option maxRecDepth 20000 in
theorem c_X2_oneCrossingFrom {E : Ev} {n : Nat} {M : Mem} {m : Nat} {dy iss fg : Int} {cl : Int64} {C : Nat → HC} (hS : StM E M m dy iss fg cl C) {s : Int → Int} (hR : StR M s dy iss fg C) (hO : Ok s) {i : Nat} (hi : (i : Int) < iss) {S : Nat} (hSb : S < 64) : MT E yX2_oneCrossingFrom cX2_oneCrossingFrom 5 (some .int) 4 0 0 [.ref m, .int (iI (S : Int)), .ref (hbs m i)] n M (PF (some (.int (iI ((oneN s (i : Int) cl S 6 : Nat))))) n (M)) := by
  refine MT.of (by decide) rfl (Nat.le_of_ble_eq_true rfl) ?_
  intro X g
  have g0 := g.1
  show V E X 0 0 n M 0 [some (.ref m), some (.int (iI (S : Int))), some (.ref (hbs m i)), none, none] []
  have a0 := hS.h0
  have a1 := hS.h1
  have hm := hO.many
  have hdy := hO.day
  obtain ⟨⟨ed, ei, ef⟩, hRow, hH⟩ := hR
  obtain ⟨hHR, hVR⟩ := hH i (by omega)
  have hk := hO.at (p := (i : Int)) (by omega) (by omega)
  have hho := hS.ho (i := i) (by omega)
  have g0a := hho.h0
  have g4a := hho.h4
  have hbO := HolR.bOk hHR hk
  have e0 := hHR.1.1
  have e8 := hHR.1.2.2.2.2
  have e3 := hHR.1.2.2.2.1
  have b0 := hk.home
  have b2 := hk.whr
  have b3 := hk.crs
  have b8 := hk.stm
  refine V.iconst g0 d_X2_oneCrossingFrom_0 ?_
  refine V.is3 g0 d_X2_oneCrossingFrom_1 ?_
  refine V.iconst g0 d_X2_oneCrossingFrom_2 ?_
  refine V.is4 g0 d_X2_oneCrossingFrom_3 ?_
  have LP : ∀ (f j : Nat), j + f = 6 → V E X 0 0 n (M) 5 [some (.ref m), some (.int (iI (S : Int))), some (.ref (hbs m i)), some (.int (iI ((oneN s (i : Int) cl S j : Nat) : Int))), some (.int (iI (j : Int)))] [] := by
    intro f
    induction f using Nat.strongRecOn with
    | _ f ih =>
    intro j hf
    have hob := oneN_b (s := s) (p := (i : Int)) (cl := cl) (S := S) j (by omega)
    refine V.il4 g0 d_X2_oneCrossingFrom_5 ?_
    refine V.bipush g0 d_X2_oneCrossingFrom_7 (by decide) ?_
    refine V.icmpge g0 d_X2_oneCrossingFrom_9 (by omega) (fun c_9 => ?_) (fun c_9 => ?_)
    · skip
      refine V.il3 g0 d_X2_oneCrossingFrom_48 ?_
      refine V.iret g d_X2_oneCrossingFrom_49 (Nat.zero_le _) (Nat.zero_le _) ⟨congrArg (fun z => some (Value.int (iI z))) ?_, rfl, rfl⟩
      rw [show 6 = j by omega]
    · skip
      refine V.al2 g0 d_X2_oneCrossingFrom_12 ?_
      refine V.il4 g0 d_X2_oneCrossingFrom_13 ?_
      refine V.al0 g0 d_X2_oneCrossingFrom_15 ?_
      refine V.getf g0 d_X2_oneCrossingFrom_16 fl_X2_18 (by assumption) (by rfl) ?_
      refine V.callVp g0 (c_X1_mayBeIn (t := dy) (c := (j : Int)) hho hHR hk hVR (by omega) (by omega)) ky_X1_mayBeIn ki_X1_mayBeIn ks2_X1_mayBeIn lk_X2_133 (by assumption) rfl rfl (Nat.le_of_ble_eq_true rfl) ⟨Nat.zero_le _, Nat.zero_le _⟩ rfl rfl (Nat.le_of_ble_eq_true rfl) d_X2_oneCrossingFrom_19 ?_
      refine V.ifeqB g0 d_X2_oneCrossingFrom_22 (fun c_22 => ?_) (fun c_22 => ?_)
      · skip
        refine V.inc4 g0 d_X2_oneCrossingFrom_42 ?_
        refine V.goto g0 d_X2_oneCrossingFrom_45 ?_
        exact V.eqL (by rw [show oneN s (i : Int) cl S (j + 1) = oneN s (i : Int) cl S j from by rw [oneN, if_neg (fun q => c_22 (ed ▸ q.1)), Nat.or_zero]]; rfl) (ih (f - 1) (by omega) (j + 1) (by omega))
      · skip
        refine V.al0 g0 d_X2_oneCrossingFrom_25 ?_
        refine V.il1 g0 d_X2_oneCrossingFrom_26 ?_
        refine V.il4 g0 d_X2_oneCrossingFrom_27 ?_
        refine V.callVp g0 (c_X2_isBesideOneOf hS hSb (by omega)) ky_X2_isBesideOneOf ki_X2_isBesideOneOf ks2_X2_isBesideOneOf lk_X2_152 (by assumption) rfl rfl (Nat.le_of_ble_eq_true rfl) ⟨Nat.zero_le _, Nat.zero_le _⟩ rfl rfl (Nat.le_of_ble_eq_true rfl) d_X2_oneCrossingFrom_29 ?_
        refine V.ifeqB g0 d_X2_oneCrossingFrom_32 (fun c_32 => ?_) (fun c_32 => ?_)
        · skip
          refine V.inc4 g0 d_X2_oneCrossingFrom_42 ?_
          refine V.goto g0 d_X2_oneCrossingFrom_45 ?_
          exact V.eqL (by rw [show oneN s (i : Int) cl S (j + 1) = oneN s (i : Int) cl S j from by rw [oneN, if_neg (fun q => c_32 q.2), Nat.or_zero]]; rfl) (ih (f - 1) (by omega) (j + 1) (by omega))
        · skip
          refine V.il3 g0 d_X2_oneCrossingFrom_35 ?_
          refine V.iconst g0 d_X2_oneCrossingFrom_36 ?_
          refine V.il4 g0 d_X2_oneCrossingFrom_37 ?_
          refine V.ishl g0 d_X2_oneCrossingFrom_39 (iI_shl1n (by omega)) ?_
          refine V.ior g0 d_X2_oneCrossingFrom_40 iI_or ?_
          refine V.is3 g0 d_X2_oneCrossingFrom_41 ?_
          refine V.inc4 g0 d_X2_oneCrossingFrom_42 ?_
          refine V.goto g0 d_X2_oneCrossingFrom_45 ?_
          exact V.eqL (by rw [show oneN s (i : Int) cl S (j + 1) = oneN s (i : Int) cl S j ||| 2 ^ j from by rw [oneN, if_pos ⟨ed ▸ c_22, c_32⟩]]; rfl) (ih (f - 1) (by omega) (j + 1) (by omega))
  exact LP 6 0 (by omega)

theorem d_X2_fewestCrossings_0 : Dc cX2_fewestCrossings 0 1 1 (.iconst 1) := ⟨by decide +kernel, rfl⟩
theorem d_X2_fewestCrossings_1 : Dc cX2_fewestCrossings 1 1 2 (.aload_n 1) := ⟨by decide +kernel, rfl⟩
theorem d_X2_fewestCrossings_2 : Dc cX2_fewestCrossings 2 3 5 (.invokevirtual 112) := ⟨by decide +kernel, rfl⟩
theorem d_X2_fewestCrossings_5 : Dc cX2_fewestCrossings 5 1 6 .ishl := ⟨by decide +kernel, rfl⟩
theorem d_X2_fewestCrossings_6 : Dc cX2_fewestCrossings 6 1 7 (.istore_n 3) := ⟨by decide +kernel, rfl⟩
theorem d_X2_fewestCrossings_7 : Dc cX2_fewestCrossings 7 1 8 (.iconst 0) := ⟨by decide +kernel, rfl⟩
theorem d_X2_fewestCrossings_8 : Dc cX2_fewestCrossings 8 2 10 (.istore 4) := ⟨by decide +kernel, rfl⟩
theorem d_X2_fewestCrossings_10 : Dc cX2_fewestCrossings 10 2 12 (.iload 4) := ⟨by decide +kernel, rfl⟩
theorem d_X2_fewestCrossings_12 : Dc cX2_fewestCrossings 12 2 14 (.bipush 6) := ⟨by decide +kernel, rfl⟩
theorem d_X2_fewestCrossings_14 : Dj cX2_fewestCrossings 14 17 43 (.if_icmp .ge) := ⟨29, by decide +kernel, rfl, by decide⟩
theorem d_X2_fewestCrossings_17 : Dc cX2_fewestCrossings 17 1 18 (.iload_n 3) := ⟨by decide +kernel, rfl⟩
theorem d_X2_fewestCrossings_18 : Dc cX2_fewestCrossings 18 1 19 (.iconst 1) := ⟨by decide +kernel, rfl⟩
theorem d_X2_fewestCrossings_19 : Dc cX2_fewestCrossings 19 1 20 (.iload_n 2) := ⟨by decide +kernel, rfl⟩
theorem d_X2_fewestCrossings_20 : Dc cX2_fewestCrossings 20 1 21 .ishl := ⟨by decide +kernel, rfl⟩
theorem d_X2_fewestCrossings_21 : Dc cX2_fewestCrossings 21 1 22 .iand := ⟨by decide +kernel, rfl⟩
theorem d_X2_fewestCrossings_22 : Dj cX2_fewestCrossings 22 25 28 (.ifCond .eq) := ⟨6, by decide +kernel, rfl, by decide⟩
theorem d_X2_fewestCrossings_25 : Dc cX2_fewestCrossings 25 2 27 (.iload 4) := ⟨by decide +kernel, rfl⟩
theorem d_X2_fewestCrossings_27 : decode cX2_fewestCrossings 27 = .ok (.ireturn, 1) := by decide +kernel
theorem d_X2_fewestCrossings_28 : Dc cX2_fewestCrossings 28 1 29 (.iload_n 3) := ⟨by decide +kernel, rfl⟩
theorem d_X2_fewestCrossings_29 : Dc cX2_fewestCrossings 29 1 30 (.aload_n 0) := ⟨by decide +kernel, rfl⟩
theorem d_X2_fewestCrossings_30 : Dc cX2_fewestCrossings 30 1 31 (.iload_n 3) := ⟨by decide +kernel, rfl⟩
theorem d_X2_fewestCrossings_31 : Dc cX2_fewestCrossings 31 1 32 (.aload_n 1) := ⟨by decide +kernel, rfl⟩
theorem d_X2_fewestCrossings_32 : Dc cX2_fewestCrossings 32 3 35 (.invokevirtual 148) := ⟨by decide +kernel, rfl⟩
theorem d_X2_fewestCrossings_35 : Dc cX2_fewestCrossings 35 1 36 .ior := ⟨by decide +kernel, rfl⟩
theorem d_X2_fewestCrossings_36 : Dc cX2_fewestCrossings 36 1 37 (.istore_n 3) := ⟨by decide +kernel, rfl⟩
theorem d_X2_fewestCrossings_37 : Dc cX2_fewestCrossings 37 3 40 (.iinc 4 1) := ⟨by decide +kernel, rfl⟩
theorem d_X2_fewestCrossings_40 : Dj cX2_fewestCrossings 40 43 10 .goto := ⟨(-30), by decide +kernel, rfl, by decide⟩
theorem d_X2_fewestCrossings_43 : Dc cX2_fewestCrossings 43 2 45 (.bipush (-5)) := ⟨by decide +kernel, rfl⟩
theorem d_X2_fewestCrossings_45 : decode cX2_fewestCrossings 45 = .ok (.ireturn, 1) := by decide +kernel
set_option maxHeartbeats 4000000 in
set_option maxRecDepth 20000 in
theorem c_X2_fewestCrossings {E : Ev} {n : Nat} {M : Mem} {m : Nat} {dy iss fg : Int} {cl : Int64} {C : Nat → HC} (hS : StM E M m dy iss fg cl C) {s : Int → Int} (hR : StR M s dy iss fg C) (hO : Ok s) {i : Nat} (hi : (i : Int) < iss) {c : Nat} (hc : c ≤ 5) : MT E yX2_fewestCrossings cX2_fewestCrossings 5 (some .int) 5 0 0 [.ref m, .ref (hbs m i), .int (iI (c : Int))] n M (PF (some (.int (iI (wayG s (i : Int) cl c 6 0)))) n (M)) := by
  refine MT.of (by decide) rfl (Nat.le_of_ble_eq_true rfl) ?_
  intro X g
  have g0 := g.1
  show V E X 0 0 n M 0 [some (.ref m), some (.ref (hbs m i)), some (.int (iI (c : Int))), none, none] []
  have a0 := hS.h0
  have a1 := hS.h1
  have hm := hO.many
  have hdy := hO.day
  obtain ⟨⟨ed, ei, ef⟩, hRow, hH⟩ := hR
  obtain ⟨hHR, hVR⟩ := hH i (by omega)
  have hk := hO.at (p := (i : Int)) (by omega) (by omega)
  have hho := hS.ho (i := i) (by omega)
  have g0a := hho.h0
  have g4a := hho.h4
  have hbO := HolR.bOk hHR hk
  have e0 := hHR.1.1
  have e8 := hHR.1.2.2.2.2
  have e3 := hHR.1.2.2.2.1
  have b0 := hk.home
  have b2 := hk.whr
  have b3 := hk.crs
  have b8 := hk.stm
  refine V.iconst g0 d_X2_fewestCrossings_0 ?_
  refine V.al1 g0 d_X2_fewestCrossings_1 ?_
  refine V.callVp g0 (c_X1_placeS hho hHR hk) ky_X1_place ki_X1_place ks2_X1_place lk_X2_112 (by assumption) rfl rfl (Nat.le_of_ble_eq_true rfl) ⟨Nat.zero_le _, Nat.zero_le _⟩ rfl rfl (Nat.le_of_ble_eq_true rfl) d_X2_fewestCrossings_2 ?_
  refine V.ishl g0 d_X2_fewestCrossings_5 (iI_shl1 (by omega)) ?_
  refine V.is3 g0 d_X2_fewestCrossings_6 ?_
  refine V.iconst g0 d_X2_fewestCrossings_7 ?_
  refine V.is4 g0 d_X2_fewestCrossings_8 ?_
  have LP : ∀ (f k : Nat), k + f = 6 → wayG s (i : Int) cl c 6 0 = wayG s (i : Int) cl c f k → V E X 0 0 n (M) 10 [some (.ref m), some (.ref (hbs m i)), some (.int (iI (c : Int))), some (.int (iI ((frch s (i : Int) cl k : Nat) : Int))), some (.int (iI (k : Int)))] [] := by
    intro f
    induction f using Nat.strongRecOn with
    | _ f ih =>
    intro k hf hz
    have hfb := frch_b (p := (i : Int)) (cl := cl) b2 k
    have hab := and_b (k := c) hfb
    refine V.il4 g0 d_X2_fewestCrossings_10 ?_
    refine V.bipush g0 d_X2_fewestCrossings_12 (by decide) ?_
    refine V.icmpge g0 d_X2_fewestCrossings_14 (by omega) (fun c_14 => ?_) (fun c_14 => ?_)
    · skip
      refine V.bipush g0 d_X2_fewestCrossings_43 (by decide) ?_
      refine V.iret g d_X2_fewestCrossings_45 (Nat.zero_le _) (Nat.zero_le _) ⟨congrArg (fun z => some (Value.int (iI z))) ?_, rfl, rfl⟩
      rw [hz, show f = 0 by omega]; rfl
    · skip
      refine V.il3 g0 d_X2_fewestCrossings_17 ?_
      refine V.iconst g0 d_X2_fewestCrossings_18 ?_
      refine V.il2 g0 d_X2_fewestCrossings_19 ?_
      refine V.ishl g0 d_X2_fewestCrossings_20 (iI_shl1n (by omega)) ?_
      refine V.iand g0 d_X2_fewestCrossings_21 iI_and ?_
      refine V.ifeq g0 d_X2_fewestCrossings_22 (by omega) (fun c_22 => ?_) (fun c_22 => ?_)
      · skip
        refine V.il3 g0 d_X2_fewestCrossings_28 ?_
        refine V.al0 g0 d_X2_fewestCrossings_29 ?_
        refine V.il3 g0 d_X2_fewestCrossings_30 ?_
        refine V.al1 g0 d_X2_fewestCrossings_31 ?_
        refine V.callVp g0 (c_X2_oneCrossingFrom hS ⟨⟨ed, ei, ef⟩, hRow, hH⟩ hO hi hfb) ky_X2_oneCrossingFrom ki_X2_oneCrossingFrom ks2_X2_oneCrossingFrom lk_X2_148 (by assumption) rfl rfl (Nat.le_of_ble_eq_true rfl) ⟨Nat.zero_le _, Nat.zero_le _⟩ rfl rfl (Nat.le_of_ble_eq_true rfl) d_X2_fewestCrossings_32 ?_
        refine V.ior g0 d_X2_fewestCrossings_35 iI_or ?_
        refine V.is3 g0 d_X2_fewestCrossings_36 ?_
        refine V.inc4 g0 d_X2_fewestCrossings_37 ?_
        refine V.goto g0 d_X2_fewestCrossings_40 ?_
        exact ih (f - 1) (by omega) (k + 1) (by omega) (by obtain ⟨f2, rfl⟩ : ∃ f2, f = f2 + 1 := ⟨f - 1, by omega⟩; rw [hz]; exact if_neg (by rw [tb_0 c_22]; decide))
      · skip
        refine V.il4 g0 d_X2_fewestCrossings_25 ?_
        refine V.iret g d_X2_fewestCrossings_27 (Nat.zero_le _) (Nat.zero_le _) ⟨congrArg (fun z => some (Value.int (iI z))) ?_, rfl, rfl⟩
        rw [hz]; obtain ⟨f2, rfl⟩ : ∃ f2, f = f2 + 1 := ⟨f - 1, by omega⟩; exact (if_pos (tb_1 c_22)).symm
  exact LP 6 0 (by omega) rfl
