theorem d_X6_issue_0 : Dc cX6_issue 0 1 1 (.aload_n 0) := ⟨by decide +kernel, rfl⟩
theorem d_X6_issue_1 : Dc cX6_issue 1 3 4 (.getfield 16) := ⟨by decide +kernel, rfl⟩
theorem d_X6_issue_4 : Dc cX6_issue 4 1 5 (.aload_n 0) := ⟨by decide +kernel, rfl⟩
theorem d_X6_issue_5 : Dc cX6_issue 5 3 8 (.getfield 12) := ⟨by decide +kernel, rfl⟩
theorem d_X6_issue_8 : Dc cX6_issue 8 3 11 (.invokevirtual 33) := ⟨by decide +kernel, rfl⟩
theorem d_X6_issue_11 : Dc cX6_issue 11 1 12 (.aload_n 0) := ⟨by decide +kernel, rfl⟩
theorem d_X6_issue_12 : Dc cX6_issue 12 1 13 (.aload_n 0) := ⟨by decide +kernel, rfl⟩
theorem d_X6_issue_13 : Dc cX6_issue 13 3 16 (.getfield 12) := ⟨by decide +kernel, rfl⟩
theorem d_X6_issue_16 : Dc cX6_issue 16 1 17 (.iload_n 1) := ⟨by decide +kernel, rfl⟩
theorem d_X6_issue_17 : Dc cX6_issue 17 3 20 (.invokevirtual 37) := ⟨by decide +kernel, rfl⟩
theorem d_X6_issue_20 : Dc cX6_issue 20 3 23 (.invokevirtual 41) := ⟨by decide +kernel, rfl⟩
theorem d_X6_issue_23 : decode cX6_issue 23 = .ok (.ireturn, 1) := by decide +kernel
set_option maxHeartbeats 4000000 in
set_option maxRecDepth 20000 in
theorem c_X6_issue {E : Ev} {n : Nat} {M : Mem} {w o : Nat} {A : AS} (hX : XR E M w n o A) {h : Int} (h1 : rg h) : MT E yX6_issue cX6_issue 2 (some .int) 6 0 0 [.ref o, .int (iI h)] n M ((RX E M w n o (a_issue A h))) := by
  refine MT.of (by decide) rfl (Nat.le_of_ble_eq_true rfl) ?_
  intro X g
  have g0 := g.1
  show V E X 0 0 n M 0 [some (.ref o), some (.int (iI h))] []
  obtain ⟨sb, ad, b, cn, ce, th, nx, ki, pa, co, fo, fr, un, da, hA, hB, hD⟩ := id hX
  obtain ⟨h0, h187, hx4, hT, hkn, hkp, hst, how, hrg⟩ := id hD
  have hO := hB.1.ok
  have hbi := hA.2.1.inn
  refine V.al0 g0 d_X6_issue_0 ?_
  refine V.getf g0 d_X6_issue_1 fl_X6_16 (by first | exact hD.1 | assumption) (by rfl) ?_
  refine V.al0 g0 d_X6_issue_4 ?_
  refine V.getf g0 d_X6_issue_5 fl_X6_12 (by first | exact hD.1 | assumption) (by rfl) ?_
  refine V.callV g0 (r_copy hB.2.1 hB.1 (by omega) (by omega)) ky_X2_copyFrom ki_X2_copyFrom ks2_X2_copyFrom lk_X6_33 hB.2.1.h0.choose_spec rfl rfl (Nat.le_of_ble_eq_true rfl) ⟨Nat.zero_le _, Nat.zero_le _⟩ rfl rfl (Nat.le_of_ble_eq_true rfl) d_X6_issue_8 (fun v_8 n_8 M_8 h_8 => ?_)
  obtain ⟨rfl, e2, hS1, hf1⟩ := h_8
  replace e2 := e2.symm
  subst e2
  have hB1 := hB.bef hA how.1 hf1 hS1
  have hD1 := hD.frm (Nat.le_refl _) (fun q hq => hf1 q (by omega))
  refine V.al0 g0 d_X6_issue_11 ?_
  refine V.al0 g0 d_X6_issue_12 ?_
  refine V.getf g0 d_X6_issue_13 fl_X6_12 hD1.1 (by rfl) ?_
  refine V.il1 g0 d_X6_issue_16 ?_
  refine V.callV g0 (r_addHolder hB1.1 (by omega) h1) ky_X2_addHolder ki_X2_addHolder ks2_X2_addHolder lk_X6_37 hB1.1.h0.choose_spec rfl rfl (Nat.le_of_ble_eq_true rfl) ⟨by omega, by omega⟩ rfl rfl (Nat.le_of_ble_eq_true rfl) d_X6_issue_17 (fun v_17 n_17 M_17 h_17 => ?_)
  obtain ⟨rfl, hn2, hS2, hf2⟩ := h_17
  have hB2 := hB1.nowN hA how hn2 hf2 hS2
  have hD2 := hD1.frm hn2 (fun q hq => hf2 q (by omega) (by omega))
  have hgo := issue_ok hO h
  refine V.callV g0 (c_X6_recorded (A := A) (s := (g_issue A.1 h).2) (z := (g_issue A.1 h).1) ⟨ad, b, cn, ce, th, nx, ki, pa, co, fo, fr, un, da, hA, hB2, hD2⟩ hgo.1 hgo.2) ky_X6_recorded ki_X6_recorded ks2_X6_recorded lk_X6_41 hD2.1 rfl rfl (Nat.le_of_ble_eq_true rfl) ⟨by omega, by omega⟩ rfl rfl (Nat.le_of_ble_eq_true rfl) d_X6_issue_20 (fun v_20 n_20 M_20 h_20 => ?_)
  obtain ⟨rfl, e3, hX3, hf3⟩ := h_20
  replace e3 := e3.symm
  subst e3
  refine V.iret g d_X6_issue_23 (by omega) (by omega) ?_
  refine ⟨by rw [issue_e hO, actA_1], hn2, by rw [issue_e hO]; exact hX3, fun q a c => (hf3 q a).trans ((hf2 q (by omega) c).trans (hf1 q (by omega)))⟩

theorem d_X6_renew_0 : Dc cX6_renew 0 1 1 (.aload_n 0) := ⟨by decide +kernel, rfl⟩
theorem d_X6_renew_1 : Dc cX6_renew 1 3 4 (.getfield 16) := ⟨by decide +kernel, rfl⟩
theorem d_X6_renew_4 : Dc cX6_renew 4 1 5 (.aload_n 0) := ⟨by decide +kernel, rfl⟩
theorem d_X6_renew_5 : Dc cX6_renew 5 3 8 (.getfield 12) := ⟨by decide +kernel, rfl⟩
theorem d_X6_renew_8 : Dc cX6_renew 8 3 11 (.invokevirtual 33) := ⟨by decide +kernel, rfl⟩
theorem d_X6_renew_11 : Dc cX6_renew 11 1 12 (.aload_n 0) := ⟨by decide +kernel, rfl⟩
theorem d_X6_renew_12 : Dc cX6_renew 12 1 13 (.aload_n 0) := ⟨by decide +kernel, rfl⟩
theorem d_X6_renew_13 : Dc cX6_renew 13 3 16 (.getfield 12) := ⟨by decide +kernel, rfl⟩
theorem d_X6_renew_16 : Dc cX6_renew 16 1 17 (.iload_n 1) := ⟨by decide +kernel, rfl⟩
theorem d_X6_renew_17 : Dc cX6_renew 17 3 20 (.invokevirtual 44) := ⟨by decide +kernel, rfl⟩
theorem d_X6_renew_20 : Dc cX6_renew 20 3 23 (.invokevirtual 41) := ⟨by decide +kernel, rfl⟩
theorem d_X6_renew_23 : decode cX6_renew 23 = .ok (.ireturn, 1) := by decide +kernel
set_option maxHeartbeats 4000000 in
set_option maxRecDepth 20000 in
theorem c_X6_renew {E : Ev} {n : Nat} {M : Mem} {w o : Nat} {A : AS} (hX : XR E M w n o A) {p : Int} (h1 : rg p) : MT E yX6_renew cX6_renew 2 (some .int) 6 0 0 [.ref o, .int (iI p)] n M ((RX E M w n o (a_renew A p))) := by
  refine MT.of (by decide) rfl (Nat.le_of_ble_eq_true rfl) ?_
  intro X g
  have g0 := g.1
  show V E X 0 0 n M 0 [some (.ref o), some (.int (iI p))] []
  obtain ⟨sb, ad, b, cn, ce, th, nx, ki, pa, co, fo, fr, un, da, hA, hB, hD⟩ := id hX
  obtain ⟨h0, h187, hx4, hT, hkn, hkp, hst, how, hrg⟩ := id hD
  have hO := hB.1.ok
  have hbi := hA.2.1.inn
  refine V.al0 g0 d_X6_renew_0 ?_
  refine V.getf g0 d_X6_renew_1 fl_X6_16 (by first | exact hD.1 | assumption) (by rfl) ?_
  refine V.al0 g0 d_X6_renew_4 ?_
  refine V.getf g0 d_X6_renew_5 fl_X6_12 (by first | exact hD.1 | assumption) (by rfl) ?_
  refine V.callV g0 (r_copy hB.2.1 hB.1 (by omega) (by omega)) ky_X2_copyFrom ki_X2_copyFrom ks2_X2_copyFrom lk_X6_33 hB.2.1.h0.choose_spec rfl rfl (Nat.le_of_ble_eq_true rfl) ⟨Nat.zero_le _, Nat.zero_le _⟩ rfl rfl (Nat.le_of_ble_eq_true rfl) d_X6_renew_8 (fun v_8 n_8 M_8 h_8 => ?_)
  obtain ⟨rfl, e2, hS1, hf1⟩ := h_8
  replace e2 := e2.symm
  subst e2
  have hB1 := hB.bef hA how.1 hf1 hS1
  have hD1 := hD.frm (Nat.le_refl _) (fun q hq => hf1 q (by omega))
  refine V.al0 g0 d_X6_renew_11 ?_
  refine V.al0 g0 d_X6_renew_12 ?_
  refine V.getf g0 d_X6_renew_13 fl_X6_12 hD1.1 (by rfl) ?_
  refine V.il1 g0 d_X6_renew_16 ?_
  refine V.callV g0 (r_giveBook hB1.1 (by omega) h1) ky_X2_giveBook ki_X2_giveBook ks2_X2_giveBook lk_X6_44 hB1.1.h0.choose_spec rfl rfl (Nat.le_of_ble_eq_true rfl) ⟨by omega, by omega⟩ rfl rfl (Nat.le_of_ble_eq_true rfl) d_X6_renew_17 (fun v_17 n_17 M_17 h_17 => ?_)
  obtain ⟨rfl, hn2, hS2, hf2⟩ := h_17
  have hB2 := hB1.nowN hA how hn2 hf2 hS2
  have hD2 := hD1.frm hn2 (fun q hq => hf2 q (by omega) (by omega))
  have hgo := renew_ok hO p
  refine V.callV g0 (c_X6_recorded (A := A) (s := (g_renew A.1 p).2) (z := (g_renew A.1 p).1) ⟨ad, b, cn, ce, th, nx, ki, pa, co, fo, fr, un, da, hA, hB2, hD2⟩ hgo.1 hgo.2) ky_X6_recorded ki_X6_recorded ks2_X6_recorded lk_X6_41 hD2.1 rfl rfl (Nat.le_of_ble_eq_true rfl) ⟨by omega, by omega⟩ rfl rfl (Nat.le_of_ble_eq_true rfl) d_X6_renew_20 (fun v_20 n_20 M_20 h_20 => ?_)
  obtain ⟨rfl, e3, hX3, hf3⟩ := h_20
  replace e3 := e3.symm
  subst e3
  refine V.iret g d_X6_renew_23 (by omega) (by omega) ?_
  refine ⟨by rw [renew_e hO, actA_1], hn2, by rw [renew_e hO]; exact hX3, fun q a c => (hf3 q a).trans ((hf2 q (by omega) c).trans (hf1 q (by omega)))⟩

theorem d_X6_grant_0 : Dc cX6_grant 0 1 1 (.aload_n 0) := ⟨by decide +kernel, rfl⟩
theorem d_X6_grant_1 : Dc cX6_grant 1 3 4 (.getfield 16) := ⟨by decide +kernel, rfl⟩
theorem d_X6_grant_4 : Dc cX6_grant 4 1 5 (.aload_n 0) := ⟨by decide +kernel, rfl⟩
theorem d_X6_grant_5 : Dc cX6_grant 5 3 8 (.getfield 12) := ⟨by decide +kernel, rfl⟩
theorem d_X6_grant_8 : Dc cX6_grant 8 3 11 (.invokevirtual 33) := ⟨by decide +kernel, rfl⟩
theorem d_X6_grant_11 : Dc cX6_grant 11 1 12 (.aload_n 0) := ⟨by decide +kernel, rfl⟩
theorem d_X6_grant_12 : Dc cX6_grant 12 1 13 (.aload_n 0) := ⟨by decide +kernel, rfl⟩
theorem d_X6_grant_13 : Dc cX6_grant 13 3 16 (.getfield 12) := ⟨by decide +kernel, rfl⟩
theorem d_X6_grant_16 : Dc cX6_grant 16 1 17 (.iload_n 1) := ⟨by decide +kernel, rfl⟩
theorem d_X6_grant_17 : Dc cX6_grant 17 1 18 (.iload_n 2) := ⟨by decide +kernel, rfl⟩
theorem d_X6_grant_18 : Dc cX6_grant 18 1 19 (.iload_n 3) := ⟨by decide +kernel, rfl⟩
theorem d_X6_grant_19 : Dc cX6_grant 19 2 21 (.iload 4) := ⟨by decide +kernel, rfl⟩
theorem d_X6_grant_21 : Dc cX6_grant 21 2 23 (.iload 5) := ⟨by decide +kernel, rfl⟩
theorem d_X6_grant_23 : Dc cX6_grant 23 3 26 (.invokevirtual 47) := ⟨by decide +kernel, rfl⟩
theorem d_X6_grant_26 : Dc cX6_grant 26 3 29 (.invokevirtual 41) := ⟨by decide +kernel, rfl⟩
theorem d_X6_grant_29 : decode cX6_grant 29 = .ok (.ireturn, 1) := by decide +kernel
set_option maxHeartbeats 4000000 in
set_option maxRecDepth 20000 in
theorem c_X6_grant {E : Ev} {n : Nat} {M : Mem} {w o : Nat} {A : AS} (hX : XR E M w n o A) {p c a u d : Int} (h1 : rg p) (h2 : rg c) (h3 : rg a) (h4 : rg u) (h5 : rg d) : MT E yX6_grant cX6_grant 6 (some .int) 6 1 4 [.ref o, .int (iI p), .int (iI c), .int (iI a), .int (iI u), .int (iI d)] n M ((RX E M w n o (a_grant A p c a u d))) := by
  refine MT.of (by decide) rfl (Nat.le_of_ble_eq_true rfl) ?_
  intro X g
  have g0 := g.1
  show V E X 0 0 n M 0 [some (.ref o), some (.int (iI p)), some (.int (iI c)), some (.int (iI a)), some (.int (iI u)), some (.int (iI d))] []
  obtain ⟨sb, ad, b, cn, ce, th, nx, ki, pa, co, fo, fr, un, da, hA, hB, hD⟩ := id hX
  obtain ⟨h0, h187, hx4, hT, hkn, hkp, hst, how, hrg⟩ := id hD
  have hO := hB.1.ok
  have hbi := hA.2.1.inn
  refine V.al0 g0 d_X6_grant_0 ?_
  refine V.getf g0 d_X6_grant_1 fl_X6_16 (by first | exact hD.1 | assumption) (by rfl) ?_
  refine V.al0 g0 d_X6_grant_4 ?_
  refine V.getf g0 d_X6_grant_5 fl_X6_12 (by first | exact hD.1 | assumption) (by rfl) ?_
  refine V.callV g0 (r_copy hB.2.1 hB.1 (by omega) (by omega)) ky_X2_copyFrom ki_X2_copyFrom ks2_X2_copyFrom lk_X6_33 hB.2.1.h0.choose_spec rfl rfl (Nat.le_of_ble_eq_true rfl) ⟨Nat.zero_le _, Nat.zero_le _⟩ rfl rfl (Nat.le_of_ble_eq_true rfl) d_X6_grant_8 (fun v_8 n_8 M_8 h_8 => ?_)
  obtain ⟨rfl, e2, hS1, hf1⟩ := h_8
  replace e2 := e2.symm
  subst e2
  have hB1 := hB.bef hA how.1 hf1 hS1
  have hD1 := hD.frm (Nat.le_refl _) (fun q hq => hf1 q (by omega))
  refine V.al0 g0 d_X6_grant_11 ?_
  refine V.al0 g0 d_X6_grant_12 ?_
  refine V.getf g0 d_X6_grant_13 fl_X6_12 hD1.1 (by rfl) ?_
  refine V.il1 g0 d_X6_grant_16 ?_
  refine V.il2 g0 d_X6_grant_17 ?_
  refine V.il3 g0 d_X6_grant_18 ?_
  refine V.il4 g0 d_X6_grant_19 ?_
  refine V.il5 g0 d_X6_grant_21 ?_
  refine V.callV g0 (r_giveVisa hB1.1 (by omega) how.2 h1 h2 h3 h4 h5) ky_X2_giveVisa ki_X2_giveVisa ks2_X2_giveVisa lk_X6_47 hB1.1.h0.choose_spec rfl rfl (Nat.le_of_ble_eq_true rfl) ⟨by omega, by omega⟩ rfl rfl (Nat.le_of_ble_eq_true rfl) d_X6_grant_23 (fun v_23 n_23 M_23 h_23 => ?_)
  obtain ⟨rfl, hn2, hS2, hf2⟩ := h_23
  have hB2 := hB1.nowN hA how hn2 hf2 hS2
  have hD2 := hD1.frm hn2 (fun q hq => hf2 q (by omega) (by omega))
  have hgo := grant_ok hO p c a u d
  refine V.callV g0 (c_X6_recorded (A := A) (s := (g_grant A.1 p c a u d).2) (z := (g_grant A.1 p c a u d).1) ⟨ad, b, cn, ce, th, nx, ki, pa, co, fo, fr, un, da, hA, hB2, hD2⟩ hgo.1 hgo.2) ky_X6_recorded ki_X6_recorded ks2_X6_recorded lk_X6_41 hD2.1 rfl rfl (Nat.le_of_ble_eq_true rfl) ⟨by omega, by omega⟩ rfl rfl (Nat.le_of_ble_eq_true rfl) d_X6_grant_26 (fun v_26 n_26 M_26 h_26 => ?_)
  obtain ⟨rfl, e3, hX3, hf3⟩ := h_26
  replace e3 := e3.symm
  subst e3
  refine V.iret g d_X6_grant_29 (by omega) (by omega) ?_
  refine ⟨by rw [grant_e, actA_1], hn2, by rw [grant_e]; exact hX3, fun q a c => (hf3 q a).trans ((hf2 q (by omega) c).trans (hf1 q (by omega)))⟩

theorem d_X6_revoke_0 : Dc cX6_revoke 0 1 1 (.aload_n 0) := ⟨by decide +kernel, rfl⟩
theorem d_X6_revoke_1 : Dc cX6_revoke 1 3 4 (.getfield 16) := ⟨by decide +kernel, rfl⟩
theorem d_X6_revoke_4 : Dc cX6_revoke 4 1 5 (.aload_n 0) := ⟨by decide +kernel, rfl⟩
theorem d_X6_revoke_5 : Dc cX6_revoke 5 3 8 (.getfield 12) := ⟨by decide +kernel, rfl⟩
theorem d_X6_revoke_8 : Dc cX6_revoke 8 3 11 (.invokevirtual 33) := ⟨by decide +kernel, rfl⟩
theorem d_X6_revoke_11 : Dc cX6_revoke 11 1 12 (.aload_n 0) := ⟨by decide +kernel, rfl⟩
theorem d_X6_revoke_12 : Dc cX6_revoke 12 1 13 (.aload_n 0) := ⟨by decide +kernel, rfl⟩
theorem d_X6_revoke_13 : Dc cX6_revoke 13 3 16 (.getfield 12) := ⟨by decide +kernel, rfl⟩
theorem d_X6_revoke_16 : Dc cX6_revoke 16 1 17 (.iload_n 1) := ⟨by decide +kernel, rfl⟩
theorem d_X6_revoke_17 : Dc cX6_revoke 17 1 18 (.iload_n 2) := ⟨by decide +kernel, rfl⟩
theorem d_X6_revoke_18 : Dc cX6_revoke 18 3 21 (.invokevirtual 51) := ⟨by decide +kernel, rfl⟩
theorem d_X6_revoke_21 : Dc cX6_revoke 21 3 24 (.invokevirtual 41) := ⟨by decide +kernel, rfl⟩
theorem d_X6_revoke_24 : decode cX6_revoke 24 = .ok (.ireturn, 1) := by decide +kernel
set_option maxHeartbeats 4000000 in
set_option maxRecDepth 20000 in
theorem c_X6_revoke {E : Ev} {n : Nat} {M : Mem} {w o : Nat} {A : AS} (hX : XR E M w n o A) {p c : Int} (h1 : rg p) (h2 : rg c) : MT E yX6_revoke cX6_revoke 3 (some .int) 6 0 0 [.ref o, .int (iI p), .int (iI c)] n M ((RX E M w n o (a_revoke A p c))) := by
  refine MT.of (by decide) rfl (Nat.le_of_ble_eq_true rfl) ?_
  intro X g
  have g0 := g.1
  show V E X 0 0 n M 0 [some (.ref o), some (.int (iI p)), some (.int (iI c))] []
  obtain ⟨sb, ad, b, cn, ce, th, nx, ki, pa, co, fo, fr, un, da, hA, hB, hD⟩ := id hX
  obtain ⟨h0, h187, hx4, hT, hkn, hkp, hst, how, hrg⟩ := id hD
  have hO := hB.1.ok
  have hbi := hA.2.1.inn
  refine V.al0 g0 d_X6_revoke_0 ?_
  refine V.getf g0 d_X6_revoke_1 fl_X6_16 (by first | exact hD.1 | assumption) (by rfl) ?_
  refine V.al0 g0 d_X6_revoke_4 ?_
  refine V.getf g0 d_X6_revoke_5 fl_X6_12 (by first | exact hD.1 | assumption) (by rfl) ?_
  refine V.callV g0 (r_copy hB.2.1 hB.1 (by omega) (by omega)) ky_X2_copyFrom ki_X2_copyFrom ks2_X2_copyFrom lk_X6_33 hB.2.1.h0.choose_spec rfl rfl (Nat.le_of_ble_eq_true rfl) ⟨Nat.zero_le _, Nat.zero_le _⟩ rfl rfl (Nat.le_of_ble_eq_true rfl) d_X6_revoke_8 (fun v_8 n_8 M_8 h_8 => ?_)
  obtain ⟨rfl, e2, hS1, hf1⟩ := h_8
  replace e2 := e2.symm
  subst e2
  have hB1 := hB.bef hA how.1 hf1 hS1
  have hD1 := hD.frm (Nat.le_refl _) (fun q hq => hf1 q (by omega))
  refine V.al0 g0 d_X6_revoke_11 ?_
  refine V.al0 g0 d_X6_revoke_12 ?_
  refine V.getf g0 d_X6_revoke_13 fl_X6_12 hD1.1 (by rfl) ?_
  refine V.il1 g0 d_X6_revoke_16 ?_
  refine V.il2 g0 d_X6_revoke_17 ?_
  refine V.callV g0 (r_takeVisa hB1.1 (by omega) h1 h2) ky_X2_takeVisa ki_X2_takeVisa ks2_X2_takeVisa lk_X6_51 hB1.1.h0.choose_spec rfl rfl (Nat.le_of_ble_eq_true rfl) ⟨by omega, by omega⟩ rfl rfl (Nat.le_of_ble_eq_true rfl) d_X6_revoke_18 (fun v_18 n_18 M_18 h_18 => ?_)
  obtain ⟨rfl, hn2, hS2, hf2⟩ := h_18
  have hB2 := hB1.nowN hA how hn2 hf2 hS2
  have hD2 := hD1.frm hn2 (fun q hq => hf2 q (by omega) (by omega))
  have hgo := revoke_ok hO p c
  refine V.callV g0 (c_X6_recorded (A := A) (s := (g_revoke A.1 p c).2) (z := (g_revoke A.1 p c).1) ⟨ad, b, cn, ce, th, nx, ki, pa, co, fo, fr, un, da, hA, hB2, hD2⟩ hgo.1 hgo.2) ky_X6_recorded ki_X6_recorded ks2_X6_recorded lk_X6_41 hD2.1 rfl rfl (Nat.le_of_ble_eq_true rfl) ⟨by omega, by omega⟩ rfl rfl (Nat.le_of_ble_eq_true rfl) d_X6_revoke_21 (fun v_21 n_21 M_21 h_21 => ?_)
  obtain ⟨rfl, e3, hX3, hf3⟩ := h_21
  replace e3 := e3.symm
  subst e3
  refine V.iret g d_X6_revoke_24 (by omega) (by omega) ?_
  refine ⟨by rw [revoke_e, actA_1], hn2, by rw [revoke_e]; exact hX3, fun q a c => (hf3 q a).trans ((hf2 q (by omega) c).trans (hf1 q (by omega)))⟩

theorem d_X6_turnBorder_0 : Dc cX6_turnBorder 0 1 1 (.aload_n 0) := ⟨by decide +kernel, rfl⟩
theorem d_X6_turnBorder_1 : Dc cX6_turnBorder 1 3 4 (.getfield 16) := ⟨by decide +kernel, rfl⟩
theorem d_X6_turnBorder_4 : Dc cX6_turnBorder 4 1 5 (.aload_n 0) := ⟨by decide +kernel, rfl⟩
theorem d_X6_turnBorder_5 : Dc cX6_turnBorder 5 3 8 (.getfield 12) := ⟨by decide +kernel, rfl⟩
theorem d_X6_turnBorder_8 : Dc cX6_turnBorder 8 3 11 (.invokevirtual 33) := ⟨by decide +kernel, rfl⟩
theorem d_X6_turnBorder_11 : Dc cX6_turnBorder 11 1 12 (.aload_n 0) := ⟨by decide +kernel, rfl⟩
theorem d_X6_turnBorder_12 : Dc cX6_turnBorder 12 1 13 (.aload_n 0) := ⟨by decide +kernel, rfl⟩
theorem d_X6_turnBorder_13 : Dc cX6_turnBorder 13 3 16 (.getfield 12) := ⟨by decide +kernel, rfl⟩
theorem d_X6_turnBorder_16 : Dc cX6_turnBorder 16 1 17 (.iload_n 1) := ⟨by decide +kernel, rfl⟩
theorem d_X6_turnBorder_17 : Dc cX6_turnBorder 17 1 18 (.iload_n 2) := ⟨by decide +kernel, rfl⟩
theorem d_X6_turnBorder_18 : Dc cX6_turnBorder 18 3 21 (.invokevirtual 55) := ⟨by decide +kernel, rfl⟩
theorem d_X6_turnBorder_21 : Dc cX6_turnBorder 21 3 24 (.invokevirtual 41) := ⟨by decide +kernel, rfl⟩
theorem d_X6_turnBorder_24 : decode cX6_turnBorder 24 = .ok (.ireturn, 1) := by decide +kernel
set_option maxHeartbeats 4000000 in
set_option maxRecDepth 20000 in
theorem c_X6_turnBorder {E : Ev} {n : Nat} {M : Mem} {w o : Nat} {A : AS} (hX : XR E M w n o A) {x y : Int} (h1 : rg x) (h2 : rg y) : MT E yX6_turnBorder cX6_turnBorder 3 (some .int) 6 0 0 [.ref o, .int (iI x), .int (iI y)] n M ((RX E M w n o (a_turn A x y))) := by
  refine MT.of (by decide) rfl (Nat.le_of_ble_eq_true rfl) ?_
  intro X g
  have g0 := g.1
  show V E X 0 0 n M 0 [some (.ref o), some (.int (iI x)), some (.int (iI y))] []
  obtain ⟨sb, ad, b, cn, ce, th, nx, ki, pa, co, fo, fr, un, da, hA, hB, hD⟩ := id hX
  obtain ⟨h0, h187, hx4, hT, hkn, hkp, hst, how, hrg⟩ := id hD
  have hO := hB.1.ok
  have hbi := hA.2.1.inn
  refine V.al0 g0 d_X6_turnBorder_0 ?_
  refine V.getf g0 d_X6_turnBorder_1 fl_X6_16 (by first | exact hD.1 | assumption) (by rfl) ?_
  refine V.al0 g0 d_X6_turnBorder_4 ?_
  refine V.getf g0 d_X6_turnBorder_5 fl_X6_12 (by first | exact hD.1 | assumption) (by rfl) ?_
  refine V.callV g0 (r_copy hB.2.1 hB.1 (by omega) (by omega)) ky_X2_copyFrom ki_X2_copyFrom ks2_X2_copyFrom lk_X6_33 hB.2.1.h0.choose_spec rfl rfl (Nat.le_of_ble_eq_true rfl) ⟨Nat.zero_le _, Nat.zero_le _⟩ rfl rfl (Nat.le_of_ble_eq_true rfl) d_X6_turnBorder_8 (fun v_8 n_8 M_8 h_8 => ?_)
  obtain ⟨rfl, e2, hS1, hf1⟩ := h_8
  replace e2 := e2.symm
  subst e2
  have hB1 := hB.bef hA how.1 hf1 hS1
  have hD1 := hD.frm (Nat.le_refl _) (fun q hq => hf1 q (by omega))
  refine V.al0 g0 d_X6_turnBorder_11 ?_
  refine V.al0 g0 d_X6_turnBorder_12 ?_
  refine V.getf g0 d_X6_turnBorder_13 fl_X6_12 hD1.1 (by rfl) ?_
  refine V.il1 g0 d_X6_turnBorder_16 ?_
  refine V.il2 g0 d_X6_turnBorder_17 ?_
  refine V.callV g0 (r_flipBorder hB1.1 (by omega) h1 h2) ky_X2_flipBorder ki_X2_flipBorder ks2_X2_flipBorder lk_X6_55 hB1.1.h0.choose_spec rfl rfl (Nat.le_of_ble_eq_true rfl) ⟨by omega, by omega⟩ rfl rfl (Nat.le_of_ble_eq_true rfl) d_X6_turnBorder_18 (fun v_18 n_18 M_18 h_18 => ?_)
  obtain ⟨rfl, hn2, hS2, hf2⟩ := h_18
  have hB2 := hB1.nowN hA how hn2 hf2 hS2
  have hD2 := hD1.frm hn2 (fun q hq => hf2 q (by omega) (by omega))
  have hgo := turn_ok (s := A.1) x y
  refine V.callV g0 (c_X6_recorded (A := A) (s := (g_turn A.1 x y).2) (z := (g_turn A.1 x y).1) ⟨ad, b, cn, ce, th, nx, ki, pa, co, fo, fr, un, da, hA, hB2, hD2⟩ hgo.1 hgo.2) ky_X6_recorded ki_X6_recorded ks2_X6_recorded lk_X6_41 hD2.1 rfl rfl (Nat.le_of_ble_eq_true rfl) ⟨by omega, by omega⟩ rfl rfl (Nat.le_of_ble_eq_true rfl) d_X6_turnBorder_21 (fun v_21 n_21 M_21 h_21 => ?_)
  obtain ⟨rfl, e3, hX3, hf3⟩ := h_21
  replace e3 := e3.symm
  subst e3
  refine V.iret g d_X6_turnBorder_24 (by omega) (by omega) ?_
  refine ⟨by rw [turn_e, actA_1], hn2, by rw [turn_e]; exact hX3, fun q a c => (hf3 q a).trans ((hf2 q (by omega) c).trans (hf1 q (by omega)))⟩

theorem d_X6_cross_0 : Dc cX6_cross 0 1 1 (.aload_n 0) := ⟨by decide +kernel, rfl⟩
theorem d_X6_cross_1 : Dc cX6_cross 1 3 4 (.getfield 16) := ⟨by decide +kernel, rfl⟩
theorem d_X6_cross_4 : Dc cX6_cross 4 1 5 (.aload_n 0) := ⟨by decide +kernel, rfl⟩
theorem d_X6_cross_5 : Dc cX6_cross 5 3 8 (.getfield 12) := ⟨by decide +kernel, rfl⟩
theorem d_X6_cross_8 : Dc cX6_cross 8 3 11 (.invokevirtual 33) := ⟨by decide +kernel, rfl⟩
theorem d_X6_cross_11 : Dc cX6_cross 11 1 12 (.aload_n 0) := ⟨by decide +kernel, rfl⟩
theorem d_X6_cross_12 : Dc cX6_cross 12 1 13 (.aload_n 0) := ⟨by decide +kernel, rfl⟩
theorem d_X6_cross_13 : Dc cX6_cross 13 3 16 (.getfield 12) := ⟨by decide +kernel, rfl⟩
theorem d_X6_cross_16 : Dc cX6_cross 16 1 17 (.iload_n 1) := ⟨by decide +kernel, rfl⟩
theorem d_X6_cross_17 : Dc cX6_cross 17 1 18 (.iload_n 2) := ⟨by decide +kernel, rfl⟩
theorem d_X6_cross_18 : Dc cX6_cross 18 1 19 (.iload_n 3) := ⟨by decide +kernel, rfl⟩
theorem d_X6_cross_19 : Dc cX6_cross 19 3 22 (.invokevirtual 58) := ⟨by decide +kernel, rfl⟩
theorem d_X6_cross_22 : Dc cX6_cross 22 3 25 (.invokevirtual 41) := ⟨by decide +kernel, rfl⟩
theorem d_X6_cross_25 : decode cX6_cross 25 = .ok (.ireturn, 1) := by decide +kernel
set_option maxHeartbeats 4000000 in
set_option maxRecDepth 20000 in
theorem c_X6_cross {E : Ev} {n : Nat} {M : Mem} {w o : Nat} {A : AS} (hX : XR E M w n o A) {p c f : Int} (h1 : rg p) (h2 : rg c) (h3 : rg f) : MT E yX6_cross cX6_cross 4 (some .int) 6 0 0 [.ref o, .int (iI p), .int (iI c), .int (iI f)] n M ((RX E M w n o (a_cross A p c f))) := by
  refine MT.of (by decide) rfl (Nat.le_of_ble_eq_true rfl) ?_
  intro X g
  have g0 := g.1
  show V E X 0 0 n M 0 [some (.ref o), some (.int (iI p)), some (.int (iI c)), some (.int (iI f))] []
  obtain ⟨sb, ad, b, cn, ce, th, nx, ki, pa, co, fo, fr, un, da, hA, hB, hD⟩ := id hX
  obtain ⟨h0, h187, hx4, hT, hkn, hkp, hst, how, hrg⟩ := id hD
  have hO := hB.1.ok
  have hbi := hA.2.1.inn
  refine V.al0 g0 d_X6_cross_0 ?_
  refine V.getf g0 d_X6_cross_1 fl_X6_16 (by first | exact hD.1 | assumption) (by rfl) ?_
  refine V.al0 g0 d_X6_cross_4 ?_
  refine V.getf g0 d_X6_cross_5 fl_X6_12 (by first | exact hD.1 | assumption) (by rfl) ?_
  refine V.callV g0 (r_copy hB.2.1 hB.1 (by omega) (by omega)) ky_X2_copyFrom ki_X2_copyFrom ks2_X2_copyFrom lk_X6_33 hB.2.1.h0.choose_spec rfl rfl (Nat.le_of_ble_eq_true rfl) ⟨Nat.zero_le _, Nat.zero_le _⟩ rfl rfl (Nat.le_of_ble_eq_true rfl) d_X6_cross_8 (fun v_8 n_8 M_8 h_8 => ?_)
  obtain ⟨rfl, e2, hS1, hf1⟩ := h_8
  replace e2 := e2.symm
  subst e2
  have hB1 := hB.bef hA how.1 hf1 hS1
  have hD1 := hD.frm (Nat.le_refl _) (fun q hq => hf1 q (by omega))
  refine V.al0 g0 d_X6_cross_11 ?_
  refine V.al0 g0 d_X6_cross_12 ?_
  refine V.getf g0 d_X6_cross_13 fl_X6_12 hD1.1 (by rfl) ?_
  refine V.il1 g0 d_X6_cross_16 ?_
  refine V.il2 g0 d_X6_cross_17 ?_
  refine V.il3 g0 d_X6_cross_18 ?_
  refine V.callV g0 (r_moveHolder hB1.1 (by omega) h1 h2 h3) ky_X2_moveHolder ki_X2_moveHolder ks2_X2_moveHolder lk_X6_58 hB1.1.h0.choose_spec rfl rfl (Nat.le_of_ble_eq_true rfl) ⟨by omega, by omega⟩ rfl rfl (Nat.le_of_ble_eq_true rfl) d_X6_cross_19 (fun v_19 n_19 M_19 h_19 => ?_)
  obtain ⟨rfl, hn2, hS2, hf2⟩ := h_19
  have hB2 := hB1.nowN hA how hn2 hf2 hS2
  have hD2 := hD1.frm hn2 (fun q hq => hf2 q (by omega) (by omega))
  have hgo := cross_ok hO p c f
  refine V.callV g0 (c_X6_recorded (A := A) (s := (g_cross A.1 p c f).2) (z := (g_cross A.1 p c f).1) ⟨ad, b, cn, ce, th, nx, ki, pa, co, fo, fr, un, da, hA, hB2, hD2⟩ hgo.1 hgo.2) ky_X6_recorded ki_X6_recorded ks2_X6_recorded lk_X6_41 hD2.1 rfl rfl (Nat.le_of_ble_eq_true rfl) ⟨by omega, by omega⟩ rfl rfl (Nat.le_of_ble_eq_true rfl) d_X6_cross_22 (fun v_22 n_22 M_22 h_22 => ?_)
  obtain ⟨rfl, e3, hX3, hf3⟩ := h_22
  replace e3 := e3.symm
  subst e3
  refine V.iret g d_X6_cross_25 (by omega) (by omega) ?_
  refine ⟨by rw [cross_e hO, actA_1], hn2, by rw [cross_e hO]; exact hX3, fun q a c => (hf3 q a).trans ((hf2 q (by omega) c).trans (hf1 q (by omega)))⟩

theorem d_X6_pass_0 : Dc cX6_pass 0 1 1 (.aload_n 0) := ⟨by decide +kernel, rfl⟩
theorem d_X6_pass_1 : Dc cX6_pass 1 3 4 (.getfield 16) := ⟨by decide +kernel, rfl⟩
theorem d_X6_pass_4 : Dc cX6_pass 4 1 5 (.aload_n 0) := ⟨by decide +kernel, rfl⟩
theorem d_X6_pass_5 : Dc cX6_pass 5 3 8 (.getfield 12) := ⟨by decide +kernel, rfl⟩
theorem d_X6_pass_8 : Dc cX6_pass 8 3 11 (.invokevirtual 33) := ⟨by decide +kernel, rfl⟩
theorem d_X6_pass_11 : Dc cX6_pass 11 1 12 (.aload_n 0) := ⟨by decide +kernel, rfl⟩
theorem d_X6_pass_12 : Dc cX6_pass 12 1 13 (.aload_n 0) := ⟨by decide +kernel, rfl⟩
theorem d_X6_pass_13 : Dc cX6_pass 13 3 16 (.getfield 12) := ⟨by decide +kernel, rfl⟩
theorem d_X6_pass_16 : Dc cX6_pass 16 1 17 (.iload_n 1) := ⟨by decide +kernel, rfl⟩
theorem d_X6_pass_17 : Dc cX6_pass 17 3 20 (.invokevirtual 62) := ⟨by decide +kernel, rfl⟩
theorem d_X6_pass_20 : Dc cX6_pass 20 3 23 (.invokevirtual 41) := ⟨by decide +kernel, rfl⟩
theorem d_X6_pass_23 : decode cX6_pass 23 = .ok (.ireturn, 1) := by decide +kernel
set_option maxHeartbeats 4000000 in
set_option maxRecDepth 20000 in
theorem c_X6_pass {E : Ev} {n : Nat} {M : Mem} {w o : Nat} {A : AS} (hX : XR E M w n o A) {d : Int} (h1 : rg d) : MT E yX6_pass cX6_pass 2 (some .int) 6 0 0 [.ref o, .int (iI d)] n M ((RX E M w n o (a_pass A d))) := by
  refine MT.of (by decide) rfl (Nat.le_of_ble_eq_true rfl) ?_
  intro X g
  have g0 := g.1
  show V E X 0 0 n M 0 [some (.ref o), some (.int (iI d))] []
  obtain ⟨sb, ad, b, cn, ce, th, nx, ki, pa, co, fo, fr, un, da, hA, hB, hD⟩ := id hX
  obtain ⟨h0, h187, hx4, hT, hkn, hkp, hst, how, hrg⟩ := id hD
  have hO := hB.1.ok
  have hbi := hA.2.1.inn
  refine V.al0 g0 d_X6_pass_0 ?_
  refine V.getf g0 d_X6_pass_1 fl_X6_16 (by first | exact hD.1 | assumption) (by rfl) ?_
  refine V.al0 g0 d_X6_pass_4 ?_
  refine V.getf g0 d_X6_pass_5 fl_X6_12 (by first | exact hD.1 | assumption) (by rfl) ?_
  refine V.callV g0 (r_copy hB.2.1 hB.1 (by omega) (by omega)) ky_X2_copyFrom ki_X2_copyFrom ks2_X2_copyFrom lk_X6_33 hB.2.1.h0.choose_spec rfl rfl (Nat.le_of_ble_eq_true rfl) ⟨Nat.zero_le _, Nat.zero_le _⟩ rfl rfl (Nat.le_of_ble_eq_true rfl) d_X6_pass_8 (fun v_8 n_8 M_8 h_8 => ?_)
  obtain ⟨rfl, e2, hS1, hf1⟩ := h_8
  replace e2 := e2.symm
  subst e2
  have hB1 := hB.bef hA how.1 hf1 hS1
  have hD1 := hD.frm (Nat.le_refl _) (fun q hq => hf1 q (by omega))
  refine V.al0 g0 d_X6_pass_11 ?_
  refine V.al0 g0 d_X6_pass_12 ?_
  refine V.getf g0 d_X6_pass_13 fl_X6_12 hD1.1 (by rfl) ?_
  refine V.il1 g0 d_X6_pass_16 ?_
  refine V.callV g0 (c_X2_endDays hB1.1 (by omega) h1) ky_X2_endDays ki_X2_endDays ks2_X2_endDays lk_X6_62 hB1.1.h0.choose_spec rfl rfl (Nat.le_of_ble_eq_true rfl) ⟨by omega, by omega⟩ rfl rfl (Nat.le_of_ble_eq_true rfl) d_X6_pass_17 (fun v_17 n_17 M_17 h_17 => ?_)
  obtain ⟨rfl, hn2, hS2, hf2⟩ := h_17
  have hB2 := hB1.nowN hA how hn2 hf2 hS2
  have hD2 := hD1.frm hn2 (fun q hq => hf2 q (by omega) (by omega))
  have hgo := pass_ok hO d
  refine V.callV g0 (c_X6_recorded (A := A) (s := (g_pass A.1 d).2) (z := (g_pass A.1 d).1) ⟨ad, b, cn, ce, th, nx, ki, pa, co, fo, fr, un, da, hA, hB2, hD2⟩ hgo.1 hgo.2) ky_X6_recorded ki_X6_recorded ks2_X6_recorded lk_X6_41 hD2.1 rfl rfl (Nat.le_of_ble_eq_true rfl) ⟨by omega, by omega⟩ rfl rfl (Nat.le_of_ble_eq_true rfl) d_X6_pass_20 (fun v_20 n_20 M_20 h_20 => ?_)
  obtain ⟨rfl, e3, hX3, hf3⟩ := h_20
  replace e3 := e3.symm
  subst e3
  refine V.iret g d_X6_pass_23 (by omega) (by omega) ?_
  refine ⟨by rw [pass_e, actA_1], hn2, by rw [pass_e]; exact hX3, fun q a c => (hf3 q a).trans ((hf2 q (by omega) c).trans (hf1 q (by omega)))⟩

theorem d_X6_undo_0 : Dc cX6_undo 0 1 1 (.aload_n 0) := ⟨by decide +kernel, rfl⟩
theorem d_X6_undo_1 : Dc cX6_undo 1 3 4 (.getfield 96) := ⟨by decide +kernel, rfl⟩
theorem d_X6_undo_4 : Dj cX6_undo 4 7 10 (.ifCond .ne) := ⟨6, by decide +kernel, rfl, by decide⟩
theorem d_X6_undo_7 : Dc cX6_undo 7 2 9 (.bipush (-5)) := ⟨by decide +kernel, rfl⟩
theorem d_X6_undo_9 : decode cX6_undo 9 = .ok (.ireturn, 1) := by decide +kernel
theorem d_X6_undo_10 : Dc cX6_undo 10 1 11 (.aload_n 0) := ⟨by decide +kernel, rfl⟩
theorem d_X6_undo_11 : Dc cX6_undo 11 1 12 .dup := ⟨by decide +kernel, rfl⟩
theorem d_X6_undo_12 : Dc cX6_undo 12 3 15 (.getfield 96) := ⟨by decide +kernel, rfl⟩
theorem d_X6_undo_15 : Dc cX6_undo 15 1 16 (.iconst 1) := ⟨by decide +kernel, rfl⟩
theorem d_X6_undo_16 : Dc cX6_undo 16 1 17 .isub := ⟨by decide +kernel, rfl⟩
theorem d_X6_undo_17 : Dc cX6_undo 17 3 20 (.putfield 96) := ⟨by decide +kernel, rfl⟩
theorem d_X6_undo_20 : Dc cX6_undo 20 1 21 (.aload_n 0) := ⟨by decide +kernel, rfl⟩
theorem d_X6_undo_21 : Dc cX6_undo 21 3 24 (.getfield 12) := ⟨by decide +kernel, rfl⟩
theorem d_X6_undo_24 : Dc cX6_undo 24 1 25 (.aload_n 0) := ⟨by decide +kernel, rfl⟩
theorem d_X6_undo_25 : Dc cX6_undo 25 3 28 (.getfield 22) := ⟨by decide +kernel, rfl⟩
theorem d_X6_undo_28 : Dc cX6_undo 28 1 29 (.aload_n 0) := ⟨by decide +kernel, rfl⟩
theorem d_X6_undo_29 : Dc cX6_undo 29 3 32 (.getfield 96) := ⟨by decide +kernel, rfl⟩
theorem d_X6_undo_32 : Dc cX6_undo 32 1 33 .aaload := ⟨by decide +kernel, rfl⟩
theorem d_X6_undo_33 : Dc cX6_undo 33 3 36 (.invokevirtual 33) := ⟨by decide +kernel, rfl⟩
theorem d_X6_undo_36 : Dc cX6_undo 36 1 37 (.aload_n 0) := ⟨by decide +kernel, rfl⟩
theorem d_X6_undo_37 : Dc cX6_undo 37 3 40 (.getfield 96) := ⟨by decide +kernel, rfl⟩
theorem d_X6_undo_40 : decode cX6_undo 40 = .ok (.ireturn, 1) := by decide +kernel
set_option maxHeartbeats 4000000 in
set_option maxRecDepth 20000 in
theorem c_X6_undo {E : Ev} {n : Nat} {M : Mem} {w o : Nat} {A : AS} (hX : XR E M w n o A) : MT E yX6_undo cX6_undo 1 (some .int) 6 0 0 [.ref o] n M ((RX E M w n o (a_undo A))) := by
  refine MT.of (by decide) rfl (Nat.le_of_ble_eq_true rfl) ?_
  intro X g
  have g0 := g.1
  show V E X 0 0 n M 0 [some (.ref o)] []
  obtain ⟨sb, ad, b, cn, ce, th, nx, ki, pa, co, fo, fr, un, da, hA, hB, hD⟩ := id hX
  obtain ⟨h0, h187, hx4, hT, hkn, hkp, hst, how, hrg⟩ := id hD
  have hO := hB.1.ok
  have hbi := hA.2.1.inn
  refine V.al0 g0 d_X6_undo_0 ?_
  refine V.getf g0 d_X6_undo_1 fl_X6_96 (by first | exact hD.1 | exact up_s) (by rfl) ?_
  refine V.ifne g0 d_X6_undo_4 (by omega) (fun c_4 => ?_) (fun c_4 => ?_)
  · skip
    refine V.al0 g0 d_X6_undo_10 ?_
    refine V.dup g0 d_X6_undo_11 rfl ?_
    refine V.getf g0 d_X6_undo_12 fl_X6_96 (by first | exact hD.1 | exact up_s) (by rfl) ?_
    refine V.iconst g0 d_X6_undo_15 ?_
    refine V.isub g0 d_X6_undo_16 ?_
    refine V.putf g0 d_X6_undo_17 fp_X6_96 (by first | exact hD.1 | exact up_s) (Nat.le_of_ble_eq_true rfl) rfl rfl ?_
    refine V.eqM (show _ = va_up M o (XO o (A.2.2.1 - 1) b A.2.2.2.2.1 cn ce) from rfl) ?_
    have hB1 := hB.frm hA how (Nat.le_refl _) (M' := va_up M o (XO o (A.2.2.1 - 1) b A.2.2.2.2.1 cn ce)) (fun q hq => va_up_ne _ _ (by omega))
    obtain ⟨s1, hs1, hs2⟩ := hB1.2.2.2 (A.2.2.1 - 1) (by omega) (by omega)
    have hai := (hA.1 (A.2.2.1 - 1) (by omega) (by omega)).inn
    refine V.al0 g0 d_X6_undo_20 ?_
    refine V.getf g0 d_X6_undo_21 fl_X6_12 (by first | exact hD.1 | exact up_s) (by rfl) ?_
    refine V.al0 g0 d_X6_undo_24 ?_
    refine V.getf g0 d_X6_undo_25 fl_X6_22 (by first | exact hD.1 | exact up_s) (by rfl) ?_
    refine V.al0 g0 d_X6_undo_28 ?_
    refine V.getf g0 d_X6_undo_29 fl_X6_96 (by first | exact hD.1 | exact up_s) (by rfl) ?_
    refine V.aald g0 d_X6_undo_32 ((va_up_ne _ _ (by omega)).trans h187) rfl (by omega) (by decide) ?_
    rw [show hrF ad (A.2.2.1 - 1) = some (ad (A.2.2.1 - 1)) from rfl, show va_rf (some (ad (A.2.2.1 - 1))) = Value.ref (ad (A.2.2.1 - 1)) from rfl]
    refine V.callV g0 (r_copy hB1.1 hs1 (by omega) (by omega)) ky_X2_copyFrom ki_X2_copyFrom ks2_X2_copyFrom lk_X6_33 hB1.1.h0.choose_spec rfl rfl (Nat.le_of_ble_eq_true rfl) ⟨Nat.zero_le _, Nat.zero_le _⟩ rfl rfl (Nat.le_of_ble_eq_true rfl) d_X6_undo_33 (fun v_33 n_33 M_33 h_33 => ?_)
    obtain ⟨rfl, e2, hS2, hf2⟩ := h_33
    replace e2 := e2.symm
    subst e2
    rw [hs2 (by omega)] at hS2
    refine V.al0 g0 d_X6_undo_36 ?_
    refine V.getf g0 d_X6_undo_37 fl_X6_96 ((hf2 _ (by omega)).trans up_s) (by rfl) ?_
    refine V.iret g d_X6_undo_40 (Nat.zero_le _) (Nat.zero_le _) ?_
    unfold a_undo
    rw [if_neg c_4]
    have hB2 := hB1.nowN hA how (Nat.le_refl _) (fun q g1 _ => hf2 q g1) hS2
    refine ⟨rfl, Nat.le_refl _, ⟨sb, ad, b, cn, ce, th, nx, ki, pa, co, fo, fr, un, da, hA, ⟨hB2.1, hB2.2.1, hB2.2.2.1, fun i g1 g2 => ?_⟩, ⟨(hf2 _ (by omega)).trans up_s, (hf2 _ (by omega)).trans ((va_up_ne _ _ (by omega)).trans h187), Bk.fr hx4 (fun q g1 g2 => (hf2 _ (by omega)).trans (va_up_ne _ _ (by omega))), hT, by dsimp only; omega, hkp, hst, how, hrg⟩⟩, fun q hq _ => (hf2 q (by omega)).trans (va_up_ne _ _ (by omega))⟩
    obtain ⟨s3, a3, c3⟩ := hB2.2.2.2 i g1 g2
    exact ⟨s3, a3, fun z => c3 (by have z' : i < A.2.2.1 - 1 := z; omega)⟩
  · skip
    refine V.bipush g0 d_X6_undo_7 (by decide) ?_
    refine V.iret g d_X6_undo_9 (Nat.zero_le _) (Nat.zero_le _) ?_
    unfold a_undo
    rw [if_pos c_4]
    exact ⟨rfl, Nat.le_refl _, hX, fun _ _ _ => rfl⟩
