theorem d_X2_copyFrom_0 : Dc cX2_copyFrom 0 1 1 (.aload_n 0) := ⟨by decide +kernel, rfl⟩
theorem d_X2_copyFrom_1 : Dc cX2_copyFrom 1 1 2 (.aload_n 1) := ⟨by decide +kernel, rfl⟩
theorem d_X2_copyFrom_2 : Dc cX2_copyFrom 2 3 5 (.getfield 18) := ⟨by decide +kernel, rfl⟩
theorem d_X2_copyFrom_5 : Dc cX2_copyFrom 5 3 8 (.putfield 18) := ⟨by decide +kernel, rfl⟩
theorem d_X2_copyFrom_8 : Dc cX2_copyFrom 8 1 9 (.aload_n 0) := ⟨by decide +kernel, rfl⟩
theorem d_X2_copyFrom_9 : Dc cX2_copyFrom 9 1 10 (.aload_n 1) := ⟨by decide +kernel, rfl⟩
theorem d_X2_copyFrom_10 : Dc cX2_copyFrom 10 3 13 (.getfield 22) := ⟨by decide +kernel, rfl⟩
theorem d_X2_copyFrom_13 : Dc cX2_copyFrom 13 3 16 (.putfield 22) := ⟨by decide +kernel, rfl⟩
theorem d_X2_copyFrom_16 : Dc cX2_copyFrom 16 1 17 (.aload_n 0) := ⟨by decide +kernel, rfl⟩
theorem d_X2_copyFrom_17 : Dc cX2_copyFrom 17 1 18 (.aload_n 1) := ⟨by decide +kernel, rfl⟩
theorem d_X2_copyFrom_18 : Dc cX2_copyFrom 18 3 21 (.getfield 25) := ⟨by decide +kernel, rfl⟩
theorem d_X2_copyFrom_21 : Dc cX2_copyFrom 21 3 24 (.putfield 25) := ⟨by decide +kernel, rfl⟩
theorem d_X2_copyFrom_24 : Dc cX2_copyFrom 24 1 25 (.aload_n 0) := ⟨by decide +kernel, rfl⟩
theorem d_X2_copyFrom_25 : Dc cX2_copyFrom 25 1 26 (.aload_n 1) := ⟨by decide +kernel, rfl⟩
theorem d_X2_copyFrom_26 : Dc cX2_copyFrom 26 3 29 (.getfield 28) := ⟨by decide +kernel, rfl⟩
theorem d_X2_copyFrom_29 : Dc cX2_copyFrom 29 3 32 (.putfield 28) := ⟨by decide +kernel, rfl⟩
theorem d_X2_copyFrom_32 : Dc cX2_copyFrom 32 1 33 (.iconst 0) := ⟨by decide +kernel, rfl⟩
theorem d_X2_copyFrom_33 : Dc cX2_copyFrom 33 1 34 (.istore_n 2) := ⟨by decide +kernel, rfl⟩
theorem d_X2_copyFrom_34 : Dc cX2_copyFrom 34 1 35 (.iload_n 2) := ⟨by decide +kernel, rfl⟩
theorem d_X2_copyFrom_35 : Dc cX2_copyFrom 35 1 36 (.aload_n 0) := ⟨by decide +kernel, rfl⟩
theorem d_X2_copyFrom_36 : Dc cX2_copyFrom 36 3 39 (.getfield 22) := ⟨by decide +kernel, rfl⟩
theorem d_X2_copyFrom_39 : Dj cX2_copyFrom 39 42 63 (.if_icmp .ge) := ⟨24, by decide +kernel, rfl, by decide⟩
theorem d_X2_copyFrom_42 : Dc cX2_copyFrom 42 1 43 (.aload_n 0) := ⟨by decide +kernel, rfl⟩
theorem d_X2_copyFrom_43 : Dc cX2_copyFrom 43 3 46 (.getfield 11) := ⟨by decide +kernel, rfl⟩
theorem d_X2_copyFrom_46 : Dc cX2_copyFrom 46 1 47 (.iload_n 2) := ⟨by decide +kernel, rfl⟩
theorem d_X2_copyFrom_47 : Dc cX2_copyFrom 47 1 48 .aaload := ⟨by decide +kernel, rfl⟩
theorem d_X2_copyFrom_48 : Dc cX2_copyFrom 48 1 49 (.aload_n 1) := ⟨by decide +kernel, rfl⟩
theorem d_X2_copyFrom_49 : Dc cX2_copyFrom 49 3 52 (.getfield 11) := ⟨by decide +kernel, rfl⟩
theorem d_X2_copyFrom_52 : Dc cX2_copyFrom 52 1 53 (.iload_n 2) := ⟨by decide +kernel, rfl⟩
theorem d_X2_copyFrom_53 : Dc cX2_copyFrom 53 1 54 .aaload := ⟨by decide +kernel, rfl⟩
theorem d_X2_copyFrom_54 : Dc cX2_copyFrom 54 3 57 (.invokevirtual 32) := ⟨by decide +kernel, rfl⟩
theorem d_X2_copyFrom_57 : Dc cX2_copyFrom 57 3 60 (.iinc 2 1) := ⟨by decide +kernel, rfl⟩
theorem d_X2_copyFrom_60 : Dj cX2_copyFrom 60 63 34 .goto := ⟨(-26), by decide +kernel, rfl, by decide⟩
theorem d_X2_copyFrom_63 : decode cX2_copyFrom 63 = .ok (.return_, 1) := by decide +kernel
set_option maxHeartbeats 4000000 in
set_option maxRecDepth 20000 in
theorem c_X2_copyFrom {E : Ev} {n : Nat} {M : Mem} {m b : Nat} {dy iss fg dy2 iss2 fg2 : Int} {cl cl2 : Int64} {C C2 : Nat → HC} (hS : StM E M m dy iss fg cl C) (hS2 : StM E M b dy2 iss2 fg2 cl2 C2) (h6 : 0 ≤ iss2 ∧ iss2 ≤ 6) (hRow : RowsOk C2) (hd : b + 62 ≤ m ∨ m + 62 ≤ b) (hW : ∀ i : Nat, (i : Int) < iss2 → ∀ k, 0 ≤ k → k < 6 → hcv (C2 i) k = none ∨ ∃ u x y z w, hcv (C2 i) k = some u ∧ M u = viC x y z w ∧ (u < m ∨ m + 62 ≤ u)) : MT E yX2_copyFrom cX2_copyFrom 3 none 5 0 0 [.ref m, .ref b] n M ((PF none n (stU E M m dy2 iss2 fg2 cl2 (cpC C2 C iss2.toNat)))) := by
  refine MT.of (by decide) rfl (Nat.le_of_ble_eq_true rfl) ?_
  intro X g
  have g0 := g.1
  show V E X 0 0 n M 0 [some (.ref m), some (.ref b), none] []
  have fr : ∀ {dy iss fg : Int} {cl : Int64} {C : Nat → HC}, StM E (stU E M m dy iss fg cl C) b dy2 iss2 fg2 cl2 C2 := fun {_ _ _ _ _} => Bk.fr hS2 (fun q h1 h2 => ov_n (by omega))
  refine V.eqM (st_id hS).symm ?_
  refine V.al0 g0 d_X2_copyFrom_0 ?_
  refine V.al1 g0 d_X2_copyFrom_1 ?_
  refine V.getf g0 d_X2_copyFrom_2 fl_X2_18 fr.h0 (by rfl) ?_
  refine V.putf g0 d_X2_copyFrom_5 fp_X2_18 (by first | exact st_M.h0 | exact st_M.h1) (Nat.le_of_ble_eq_true rfl) rfl rfl ?_
  first | refine V.eqM st_u0 ?_
  refine V.al0 g0 d_X2_copyFrom_8 ?_
  refine V.al1 g0 d_X2_copyFrom_9 ?_
  refine V.getf g0 d_X2_copyFrom_10 fl_X2_22 fr.h0 (by rfl) ?_
  refine V.putf g0 d_X2_copyFrom_13 fp_X2_22 (by first | exact st_M.h0 | exact st_M.h1) (Nat.le_of_ble_eq_true rfl) rfl rfl ?_
  first | refine V.eqM st_u0 ?_
  refine V.al0 g0 d_X2_copyFrom_16 ?_
  refine V.al1 g0 d_X2_copyFrom_17 ?_
  refine V.getf g0 d_X2_copyFrom_18 fl_X2_25 fr.h0 (by rfl) ?_
  refine V.putf g0 d_X2_copyFrom_21 fp_X2_25 (by first | exact st_M.h0 | exact st_M.h1) (Nat.le_of_ble_eq_true rfl) rfl rfl ?_
  first | refine V.eqM st_u0 ?_
  refine V.al0 g0 d_X2_copyFrom_24 ?_
  refine V.al1 g0 d_X2_copyFrom_25 ?_
  refine V.getf g0 d_X2_copyFrom_26 fl_X2_28 fr.h0 (by rfl) ?_
  refine V.putf g0 d_X2_copyFrom_29 fp_X2_28 (by first | exact st_M.h0 | exact st_M.h1) (Nat.le_of_ble_eq_true rfl) rfl rfl ?_
  first | refine V.eqM st_u0 ?_
  refine V.iconst g0 d_X2_copyFrom_32 ?_
  refine V.is2 g0 d_X2_copyFrom_33 ?_
  have LP : ∀ (f i : Nat), i + f = iss2.toNat → V E X 0 0 n (stU E M m dy2 iss2 fg2 cl2 (cpC C2 C i)) 34 [some (.ref m), some (.ref b), some (.int (iI (i : Int)))] [] := by
    intro f
    induction f using Nat.strongRecOn with
    | _ f ih =>
    intro i hf
    refine V.il2 g0 d_X2_copyFrom_34 ?_
    refine V.al0 g0 d_X2_copyFrom_35 ?_
    refine V.getf g0 d_X2_copyFrom_36 fl_X2_22 (by first | exact st_M.h0 | exact st_M.h1) (by rfl) ?_
    refine V.icmpge g0 d_X2_copyFrom_39 (by omega) (fun c_39 => ?_) (fun c_39 => ?_)
    · skip
      rw [show i = iss2.toNat by omega]
      refine V.vret g d_X2_copyFrom_63 (Nat.zero_le _) (Nat.zero_le _) ?_
      exact ⟨rfl, rfl, rfl⟩
    · skip
      have hb1 := hbs_in (t := m) (i := i) (by omega)
      have hb2 := hbs_in (t := b) (i := i) (by omega)
      have hr := hRow i (by omega)
      have hho := (st_M (E := E) (M := M) (t := m) (dy := dy2) (iss := iss2) (fg := fg2) (cl := cl2) (C := cpC C2 C i)).ho (i := i) (by omega)
      rw [cpC_i] at hho
      have hho2 := (fr (dy := dy2) (iss := iss2) (fg := fg2) (cl := cl2) (C := cpC C2 C i)).ho (i := i) (by omega)
      have g0a := hho.h0
      refine V.al0 g0 d_X2_copyFrom_42 ?_
      refine V.getf g0 d_X2_copyFrom_43 fl_X2_11 (by first | exact st_M.h0 | exact st_M.h1) (by rfl) ?_
      refine V.il2 g0 d_X2_copyFrom_46 ?_
      refine V.aald g0 d_X2_copyFrom_47 (by first | exact st_M.h0 | exact st_M.h1) rfl (by omega) (by decide) ?_
      rw [show hsF m (i : Int) = some (hbs m i) from rfl, show va_rf (some (hbs m i)) = Value.ref (hbs m i) from rfl]
      refine V.al1 g0 d_X2_copyFrom_48 ?_
      refine V.getf g0 d_X2_copyFrom_49 fl_X2_11 fr.h0 (by rfl) ?_
      refine V.il2 g0 d_X2_copyFrom_52 ?_
      refine V.aald g0 d_X2_copyFrom_53 fr.h1 rfl (by omega) (by decide) ?_
      rw [show hsF b (i : Int) = some (hbs b i) from rfl, show va_rf (some (hbs b i)) = Value.ref (hbs b i) from rfl]
      refine V.callVf g0 (c_X1_copyFrom hho hho2 hr.1 hr.2 (by omega) (fun k k0 k1 => (hW i (by omega) k k0 k1).elim Or.inl (fun ⟨u, x, y, z, w, e1, e2, e3⟩ => Or.inr ⟨u, x, y, z, w, e1, (ov_n e3).trans e2, by omega⟩))) ky_X1_copyFrom ki_X1_copyFrom ks2_X1_copyFrom lk_X2_32 g0a rfl rfl (Nat.le_of_ble_eq_true rfl) ⟨Nat.zero_le _, Nat.zero_le _⟩ rfl rfl (Nat.le_of_ble_eq_true rfl) d_X2_copyFrom_54 ?_
      refine V.eqM (st_uh (i := i) (c := cpH (C2 i) (C i)) (by omega)) ?_
      rw [cpC_s]
      refine V.inc2 g0 d_X2_copyFrom_57 ?_
      refine V.goto g0 d_X2_copyFrom_60 ?_
      exact ih (f - 1) (by omega) (i + 1) (by omega)
  exact V.eqM (by rw [cpC_0]) (LP iss2.toNat 0 (by omega))

theorem d_X2_reasonAgainst_0 : Dc cX2_reasonAgainst 0 1 1 (.aload_n 1) := ⟨by decide +kernel, rfl⟩
theorem d_X2_reasonAgainst_1 : Dc cX2_reasonAgainst 1 3 4 (.invokevirtual 112) := ⟨by decide +kernel, rfl⟩
theorem d_X2_reasonAgainst_4 : Dc cX2_reasonAgainst 4 1 5 (.iload_n 2) := ⟨by decide +kernel, rfl⟩
theorem d_X2_reasonAgainst_5 : Dj cX2_reasonAgainst 5 8 10 (.if_icmp .ne) := ⟨5, by decide +kernel, rfl, by decide⟩
theorem d_X2_reasonAgainst_8 : Dc cX2_reasonAgainst 8 1 9 (.iconst 1) := ⟨by decide +kernel, rfl⟩
theorem d_X2_reasonAgainst_9 : decode cX2_reasonAgainst 9 = .ok (.ireturn, 1) := by decide +kernel
theorem d_X2_reasonAgainst_10 : Dc cX2_reasonAgainst 10 1 11 (.aload_n 0) := ⟨by decide +kernel, rfl⟩
theorem d_X2_reasonAgainst_11 : Dc cX2_reasonAgainst 11 1 12 (.aload_n 1) := ⟨by decide +kernel, rfl⟩
theorem d_X2_reasonAgainst_12 : Dc cX2_reasonAgainst 12 3 15 (.invokevirtual 112) := ⟨by decide +kernel, rfl⟩
theorem d_X2_reasonAgainst_15 : Dc cX2_reasonAgainst 15 1 16 (.iload_n 2) := ⟨by decide +kernel, rfl⟩
theorem d_X2_reasonAgainst_16 : Dc cX2_reasonAgainst 16 3 19 (.invokevirtual 139) := ⟨by decide +kernel, rfl⟩
theorem d_X2_reasonAgainst_19 : Dj cX2_reasonAgainst 19 22 24 (.ifCond .ne) := ⟨5, by decide +kernel, rfl, by decide⟩
theorem d_X2_reasonAgainst_22 : Dc cX2_reasonAgainst 22 1 23 (.iconst 2) := ⟨by decide +kernel, rfl⟩
theorem d_X2_reasonAgainst_23 : decode cX2_reasonAgainst 23 = .ok (.ireturn, 1) := by decide +kernel
theorem d_X2_reasonAgainst_24 : Dc cX2_reasonAgainst 24 1 25 (.iload_n 2) := ⟨by decide +kernel, rfl⟩
theorem d_X2_reasonAgainst_25 : Dc cX2_reasonAgainst 25 1 26 (.aload_n 1) := ⟨by decide +kernel, rfl⟩
theorem d_X2_reasonAgainst_26 : Dc cX2_reasonAgainst 26 3 29 (.getfield 76) := ⟨by decide +kernel, rfl⟩
theorem d_X2_reasonAgainst_29 : Dj cX2_reasonAgainst 29 32 46 (.if_icmp .eq) := ⟨17, by decide +kernel, rfl, by decide⟩
theorem d_X2_reasonAgainst_32 : Dc cX2_reasonAgainst 32 1 33 (.aload_n 1) := ⟨by decide +kernel, rfl⟩
theorem d_X2_reasonAgainst_33 : Dc cX2_reasonAgainst 33 1 34 (.iload_n 2) := ⟨by decide +kernel, rfl⟩
theorem d_X2_reasonAgainst_34 : Dc cX2_reasonAgainst 34 1 35 (.aload_n 0) := ⟨by decide +kernel, rfl⟩
theorem d_X2_reasonAgainst_35 : Dc cX2_reasonAgainst 35 3 38 (.getfield 18) := ⟨by decide +kernel, rfl⟩
theorem d_X2_reasonAgainst_38 : Dc cX2_reasonAgainst 38 3 41 (.invokevirtual 142) := ⟨by decide +kernel, rfl⟩
theorem d_X2_reasonAgainst_41 : Dj cX2_reasonAgainst 41 44 46 (.ifCond .ne) := ⟨5, by decide +kernel, rfl, by decide⟩
theorem d_X2_reasonAgainst_44 : Dc cX2_reasonAgainst 44 1 45 (.iconst 3) := ⟨by decide +kernel, rfl⟩
theorem d_X2_reasonAgainst_45 : decode cX2_reasonAgainst 45 = .ok (.ireturn, 1) := by decide +kernel
theorem d_X2_reasonAgainst_46 : Dc cX2_reasonAgainst 46 1 47 (.aload_n 1) := ⟨by decide +kernel, rfl⟩
theorem d_X2_reasonAgainst_47 : Dc cX2_reasonAgainst 47 1 48 (.iload_n 2) := ⟨by decide +kernel, rfl⟩
theorem d_X2_reasonAgainst_48 : Dc cX2_reasonAgainst 48 1 49 (.aload_n 0) := ⟨by decide +kernel, rfl⟩
theorem d_X2_reasonAgainst_49 : Dc cX2_reasonAgainst 49 3 52 (.getfield 18) := ⟨by decide +kernel, rfl⟩
theorem d_X2_reasonAgainst_52 : Dc cX2_reasonAgainst 52 3 55 (.invokevirtual 133) := ⟨by decide +kernel, rfl⟩
theorem d_X2_reasonAgainst_55 : Dj cX2_reasonAgainst 55 58 60 (.ifCond .ne) := ⟨5, by decide +kernel, rfl, by decide⟩
theorem d_X2_reasonAgainst_58 : Dc cX2_reasonAgainst 58 1 59 (.iconst 4) := ⟨by decide +kernel, rfl⟩
theorem d_X2_reasonAgainst_59 : decode cX2_reasonAgainst 59 = .ok (.ireturn, 1) := by decide +kernel
theorem d_X2_reasonAgainst_60 : Dc cX2_reasonAgainst 60 1 61 (.aload_n 1) := ⟨by decide +kernel, rfl⟩
theorem d_X2_reasonAgainst_61 : Dc cX2_reasonAgainst 61 3 64 (.getfield 58) := ⟨by decide +kernel, rfl⟩
theorem d_X2_reasonAgainst_64 : Dc cX2_reasonAgainst 64 3 67 (.invokevirtual 62) := ⟨by decide +kernel, rfl⟩
theorem d_X2_reasonAgainst_67 : Dc cX2_reasonAgainst 67 1 68 (.iload_n 3) := ⟨by decide +kernel, rfl⟩
theorem d_X2_reasonAgainst_68 : Dc cX2_reasonAgainst 68 1 69 .iadd := ⟨by decide +kernel, rfl⟩
theorem d_X2_reasonAgainst_69 : Dc cX2_reasonAgainst 69 2 71 (.bipush 16) := ⟨by decide +kernel, rfl⟩
theorem d_X2_reasonAgainst_71 : Dj cX2_reasonAgainst 71 74 76 (.if_icmp .le) := ⟨5, by decide +kernel, rfl, by decide⟩
theorem d_X2_reasonAgainst_74 : Dc cX2_reasonAgainst 74 1 75 (.iconst 5) := ⟨by decide +kernel, rfl⟩
theorem d_X2_reasonAgainst_75 : decode cX2_reasonAgainst 75 = .ok (.ireturn, 1) := by decide +kernel
theorem d_X2_reasonAgainst_76 : Dc cX2_reasonAgainst 76 1 77 (.aload_n 1) := ⟨by decide +kernel, rfl⟩
theorem d_X2_reasonAgainst_77 : Dc cX2_reasonAgainst 77 3 80 (.invokevirtual 145) := ⟨by decide +kernel, rfl⟩
theorem d_X2_reasonAgainst_80 : Dc cX2_reasonAgainst 80 2 82 (.bipush 60) := ⟨by decide +kernel, rfl⟩
theorem d_X2_reasonAgainst_82 : Dj cX2_reasonAgainst 82 85 90 (.if_icmp .lt) := ⟨8, by decide +kernel, rfl, by decide⟩
theorem d_X2_reasonAgainst_85 : Dc cX2_reasonAgainst 85 2 87 (.bipush 6) := ⟨by decide +kernel, rfl⟩
theorem d_X2_reasonAgainst_87 : Dj cX2_reasonAgainst 87 90 91 .goto := ⟨4, by decide +kernel, rfl, by decide⟩
theorem d_X2_reasonAgainst_90 : Dc cX2_reasonAgainst 90 1 91 (.iconst 0) := ⟨by decide +kernel, rfl⟩
theorem d_X2_reasonAgainst_91 : decode cX2_reasonAgainst 91 = .ok (.ireturn, 1) := by decide +kernel
set_option maxHeartbeats 4000000 in
set_option maxRecDepth 20000 in
theorem c_X2_reasonAgainst {E : Ev} {n : Nat} {M : Mem} {m : Nat} {dy iss fg : Int} {cl : Int64} {C : Nat → HC} (hS : StM E M m dy iss fg cl C) {s : Int → Int} (hR : StR M s dy iss fg C) (hO : Ok s) (hCl : CloR s cl) {i : Nat} (hi : (i : Int) < iss) {c k : Int} (hc : 0 ≤ c ∧ c ≤ 5) (hk2 : 0 ≤ k ∧ k ≤ 2) : MT E yX2_reasonAgainst cX2_reasonAgainst 4 (some .int) 4 0 0 [.ref m, .ref (hbs m i), .int (iI c), .int (iI k)] n M (PF (some (.int (iI (hindr s (i : Int) c k)))) n (M)) := by
  refine MT.of (by decide) rfl (Nat.le_of_ble_eq_true rfl) ?_
  intro X g
  have g0 := g.1
  show V E X 0 0 n M 0 [some (.ref m), some (.ref (hbs m i)), some (.int (iI c)), some (.int (iI k))] []
  have a0 := hS.h0
  have a1 := hS.h1
  have hm := hO.many
  have hdy := hO.day
  obtain ⟨⟨ed, ei, ef⟩, hRow, hH⟩ := hR
  obtain ⟨hHR, hVR⟩ := hH i (by omega)
  have hk := hO.at (p := (i : Int)) (by omega) (by omega)
  have hho := hS.ho (i := i) (by omega)
  have g0a := hho.h0
  have g4a := hho.h4
  have hbO := HolR.bOk hHR hk
  have e0 := hHR.1.1
  have e8 := hHR.1.2.2.2.2
  have e3 := hHR.1.2.2.2.1
  have b0 := hk.home
  have b2 := hk.whr
  have b3 := hk.crs
  have b8 := hk.stm
  refine V.al1 g0 d_X2_reasonAgainst_0 ?_
  refine V.callVp g0 (c_X1_placeS hho hHR hk) ky_X1_place ki_X1_place ks2_X1_place lk_X2_112 (by assumption) rfl rfl (Nat.le_of_ble_eq_true rfl) ⟨Nat.zero_le _, Nat.zero_le _⟩ rfl rfl (Nat.le_of_ble_eq_true rfl) d_X2_reasonAgainst_1 ?_
  refine V.il2 g0 d_X2_reasonAgainst_4 ?_
  refine V.icmpne g0 d_X2_reasonAgainst_5 (by omega) (fun c_5 => ?_) (fun c_5 => ?_)
  · skip
    refine V.al0 g0 d_X2_reasonAgainst_10 ?_
    refine V.al1 g0 d_X2_reasonAgainst_11 ?_
    refine V.callVp g0 (c_X1_placeS hho hHR hk) ky_X1_place ki_X1_place ks2_X1_place lk_X2_112 (by assumption) rfl rfl (Nat.le_of_ble_eq_true rfl) ⟨Nat.zero_le _, Nat.zero_le _⟩ rfl rfl (Nat.le_of_ble_eq_true rfl) d_X2_reasonAgainst_12 ?_
    refine V.il2 g0 d_X2_reasonAgainst_15 ?_
    refine V.callVp g0 (c_X2_isOpen hS b2 hc) ky_X2_isOpen ki_X2_isOpen ks2_X2_isOpen lk_X2_139 (by assumption) rfl rfl (Nat.le_of_ble_eq_true rfl) ⟨Nat.zero_le _, Nat.zero_le _⟩ rfl rfl (Nat.le_of_ble_eq_true rfl) d_X2_reasonAgainst_16 ?_
    refine V.ifneB g0 d_X2_reasonAgainst_19 (fun c_19 => ?_) (fun c_19 => ?_)
    · skip
      refine V.il2 g0 d_X2_reasonAgainst_24 ?_
      refine V.al1 g0 d_X2_reasonAgainst_25 ?_
      refine V.getf g0 d_X2_reasonAgainst_26 fl_X2_76 (by assumption) (by rfl) ?_
      refine V.icmpeq g0 d_X2_reasonAgainst_29 (by omega) (fun c_29 => ?_) (fun c_29 => ?_)
      · skip
        refine V.al1 g0 d_X2_reasonAgainst_46 ?_
        refine V.il2 g0 d_X2_reasonAgainst_47 ?_
        refine V.al0 g0 d_X2_reasonAgainst_48 ?_
        refine V.getf g0 d_X2_reasonAgainst_49 fl_X2_18 (by assumption) (by rfl) ?_
        refine V.callVp g0 (c_X1_mayBeIn hho hHR hk hVR (by omega) (by omega)) ky_X1_mayBeIn ki_X1_mayBeIn ks2_X1_mayBeIn lk_X2_133 (by assumption) rfl rfl (Nat.le_of_ble_eq_true rfl) ⟨Nat.zero_le _, Nat.zero_le _⟩ rfl rfl (Nat.le_of_ble_eq_true rfl) d_X2_reasonAgainst_52 ?_
        refine V.ifneB g0 d_X2_reasonAgainst_55 (fun c_55 => ?_) (fun c_55 => ?_)
        · skip
          refine V.al1 g0 d_X2_reasonAgainst_60 ?_
          refine V.getf g0 d_X2_reasonAgainst_61 fl_X2_58 (by assumption) (by rfl) ?_
          refine V.callVp g0 (c_X0_stamps hho.bo hbO) ky_X0_stamps ki_X0_stamps ks2_X0_stamps lk_X2_62 (by assumption) rfl rfl (Nat.le_of_ble_eq_true rfl) ⟨Nat.zero_le _, Nat.zero_le _⟩ rfl rfl (Nat.le_of_ble_eq_true rfl) d_X2_reasonAgainst_64 ?_
          refine V.il3 g0 d_X2_reasonAgainst_67 ?_
          refine V.iadd g0 d_X2_reasonAgainst_68 ?_
          refine V.bipush g0 d_X2_reasonAgainst_69 (by decide) ?_
          refine V.icmple g0 d_X2_reasonAgainst_71 (by omega) (fun c_71 => ?_) (fun c_71 => ?_)
          · skip
            refine V.al1 g0 d_X2_reasonAgainst_76 ?_
            refine V.callVp g0 (c_X1_crossings hho hHR hk) ky_X1_crossings ki_X1_crossings ks2_X1_crossings lk_X2_145 (by assumption) rfl rfl (Nat.le_of_ble_eq_true rfl) ⟨Nat.zero_le _, Nat.zero_le _⟩ rfl rfl (Nat.le_of_ble_eq_true rfl) d_X2_reasonAgainst_77 ?_
            refine V.bipush g0 d_X2_reasonAgainst_80 (by decide) ?_
            refine V.icmplt g0 d_X2_reasonAgainst_82 (by omega) (fun c_82 => ?_) (fun c_82 => ?_)
            · skip
              refine V.iconst g0 d_X2_reasonAgainst_90 ?_
              refine V.iret g d_X2_reasonAgainst_91 (Nat.zero_le _) (Nat.zero_le _) ⟨congrArg (fun z => some (Value.int (iI z))) ?_, rfl, rfl⟩
              exact (hindr_0 c_5 ((hCl _ _ b2 hc c_5).mp c_19) (Or.inl (by omega)) (ed ▸ c_55) (by omega) (by omega)).symm
            · skip
              refine V.bipush g0 d_X2_reasonAgainst_85 (by decide) ?_
              refine V.goto g0 d_X2_reasonAgainst_87 ?_
              refine V.iret g d_X2_reasonAgainst_91 (Nat.zero_le _) (Nat.zero_le _) ⟨congrArg (fun z => some (Value.int (iI z))) ?_, rfl, rfl⟩
              exact (hindr_6 c_5 ((hCl _ _ b2 hc c_5).mp c_19) (Or.inl (by omega)) (ed ▸ c_55) (by omega) (by omega)).symm
          · skip
            refine V.iconst g0 d_X2_reasonAgainst_74 ?_
            refine V.iret g d_X2_reasonAgainst_75 (Nat.zero_le _) (Nat.zero_le _) ⟨congrArg (fun z => some (Value.int (iI z))) ?_, rfl, rfl⟩
            exact (hindr_5 c_5 ((hCl _ _ b2 hc c_5).mp c_19) (Or.inl (by omega)) (ed ▸ c_55) (by omega)).symm
        · skip
          refine V.iconst g0 d_X2_reasonAgainst_58 ?_
          refine V.iret g d_X2_reasonAgainst_59 (Nat.zero_le _) (Nat.zero_le _) ⟨congrArg (fun z => some (Value.int (iI z))) ?_, rfl, rfl⟩
          exact (hindr_4 c_5 ((hCl _ _ b2 hc c_5).mp c_19) (Or.inl (by omega)) (ed ▸ c_55)).symm
      · skip
        refine V.al1 g0 d_X2_reasonAgainst_32 ?_
        refine V.il2 g0 d_X2_reasonAgainst_33 ?_
        refine V.al0 g0 d_X2_reasonAgainst_34 ?_
        refine V.getf g0 d_X2_reasonAgainst_35 fl_X2_18 (by assumption) (by rfl) ?_
        refine V.callVp g0 (c_X1_hasValidVisa hho hHR hk hVR (by omega) (by constructor <;> omega)) ky_X1_hasValidVisa ki_X1_hasValidVisa ks2_X1_hasValidVisa lk_X2_142 (by assumption) rfl rfl (Nat.le_of_ble_eq_true rfl) ⟨Nat.zero_le _, Nat.zero_le _⟩ rfl rfl (Nat.le_of_ble_eq_true rfl) d_X2_reasonAgainst_38 ?_
        refine V.ifneB g0 d_X2_reasonAgainst_41 (fun c_41 => ?_) (fun c_41 => ?_)
        · skip
          refine V.al1 g0 d_X2_reasonAgainst_46 ?_
          refine V.il2 g0 d_X2_reasonAgainst_47 ?_
          refine V.al0 g0 d_X2_reasonAgainst_48 ?_
          refine V.getf g0 d_X2_reasonAgainst_49 fl_X2_18 (by assumption) (by rfl) ?_
          refine V.callVp g0 (c_X1_mayBeIn hho hHR hk hVR (by omega) (by omega)) ky_X1_mayBeIn ki_X1_mayBeIn ks2_X1_mayBeIn lk_X2_133 (by assumption) rfl rfl (Nat.le_of_ble_eq_true rfl) ⟨Nat.zero_le _, Nat.zero_le _⟩ rfl rfl (Nat.le_of_ble_eq_true rfl) d_X2_reasonAgainst_52 ?_
          refine V.ifneB g0 d_X2_reasonAgainst_55 (fun c_55 => ?_) (fun c_55 => ?_)
          · skip
            refine V.al1 g0 d_X2_reasonAgainst_60 ?_
            refine V.getf g0 d_X2_reasonAgainst_61 fl_X2_58 (by assumption) (by rfl) ?_
            refine V.callVp g0 (c_X0_stamps hho.bo hbO) ky_X0_stamps ki_X0_stamps ks2_X0_stamps lk_X2_62 (by assumption) rfl rfl (Nat.le_of_ble_eq_true rfl) ⟨Nat.zero_le _, Nat.zero_le _⟩ rfl rfl (Nat.le_of_ble_eq_true rfl) d_X2_reasonAgainst_64 ?_
            refine V.il3 g0 d_X2_reasonAgainst_67 ?_
            refine V.iadd g0 d_X2_reasonAgainst_68 ?_
            refine V.bipush g0 d_X2_reasonAgainst_69 (by decide) ?_
            refine V.icmple g0 d_X2_reasonAgainst_71 (by omega) (fun c_71 => ?_) (fun c_71 => ?_)
            · skip
              refine V.al1 g0 d_X2_reasonAgainst_76 ?_
              refine V.callVp g0 (c_X1_crossings hho hHR hk) ky_X1_crossings ki_X1_crossings ks2_X1_crossings lk_X2_145 (by assumption) rfl rfl (Nat.le_of_ble_eq_true rfl) ⟨Nat.zero_le _, Nat.zero_le _⟩ rfl rfl (Nat.le_of_ble_eq_true rfl) d_X2_reasonAgainst_77 ?_
              refine V.bipush g0 d_X2_reasonAgainst_80 (by decide) ?_
              refine V.icmplt g0 d_X2_reasonAgainst_82 (by omega) (fun c_82 => ?_) (fun c_82 => ?_)
              · skip
                refine V.iconst g0 d_X2_reasonAgainst_90 ?_
                refine V.iret g d_X2_reasonAgainst_91 (Nat.zero_le _) (Nat.zero_le _) ⟨congrArg (fun z => some (Value.int (iI z))) ?_, rfl, rfl⟩
                exact (hindr_0 c_5 ((hCl _ _ b2 hc c_5).mp c_19) (Or.inr (ed ▸ c_41)) (ed ▸ c_55) (by omega) (by omega)).symm
              · skip
                refine V.bipush g0 d_X2_reasonAgainst_85 (by decide) ?_
                refine V.goto g0 d_X2_reasonAgainst_87 ?_
                refine V.iret g d_X2_reasonAgainst_91 (Nat.zero_le _) (Nat.zero_le _) ⟨congrArg (fun z => some (Value.int (iI z))) ?_, rfl, rfl⟩
                exact (hindr_6 c_5 ((hCl _ _ b2 hc c_5).mp c_19) (Or.inr (ed ▸ c_41)) (ed ▸ c_55) (by omega) (by omega)).symm
            · skip
              refine V.iconst g0 d_X2_reasonAgainst_74 ?_
              refine V.iret g d_X2_reasonAgainst_75 (Nat.zero_le _) (Nat.zero_le _) ⟨congrArg (fun z => some (Value.int (iI z))) ?_, rfl, rfl⟩
              exact (hindr_5 c_5 ((hCl _ _ b2 hc c_5).mp c_19) (Or.inr (ed ▸ c_41)) (ed ▸ c_55) (by omega)).symm
          · skip
            refine V.iconst g0 d_X2_reasonAgainst_58 ?_
            refine V.iret g d_X2_reasonAgainst_59 (Nat.zero_le _) (Nat.zero_le _) ⟨congrArg (fun z => some (Value.int (iI z))) ?_, rfl, rfl⟩
            exact (hindr_4 c_5 ((hCl _ _ b2 hc c_5).mp c_19) (Or.inr (ed ▸ c_41)) (ed ▸ c_55)).symm
        · skip
          refine V.iconst g0 d_X2_reasonAgainst_44 ?_
          refine V.iret g d_X2_reasonAgainst_45 (Nat.zero_le _) (Nat.zero_le _) ⟨congrArg (fun z => some (Value.int (iI z))) ?_, rfl, rfl⟩
          exact (hindr_3 c_5 ((hCl _ _ b2 hc c_5).mp c_19) (by omega) (ed ▸ c_41)).symm
    · skip
      refine V.iconst g0 d_X2_reasonAgainst_22 ?_
      refine V.iret g d_X2_reasonAgainst_23 (Nat.zero_le _) (Nat.zero_le _) ⟨congrArg (fun z => some (Value.int (iI z))) ?_, rfl, rfl⟩
      exact (hindr_2 c_5 (fun q => c_19 ((hCl _ _ b2 hc c_5).mpr q))).symm
  · skip
    refine V.iconst g0 d_X2_reasonAgainst_8 ?_
    refine V.iret g d_X2_reasonAgainst_9 (Nat.zero_le _) (Nat.zero_le _) ⟨congrArg (fun z => some (Value.int (iI z))) ?_, rfl, rfl⟩
    exact (hindr_1 c_5).symm
