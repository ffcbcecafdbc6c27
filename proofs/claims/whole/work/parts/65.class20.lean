theorem d_X6_doNextThing_0 : Dc cX6_doNextThing 0 1 1 (.aload_n 0) := ⟨by decide +kernel, rfl⟩
theorem d_X6_doNextThing_1 : Dc cX6_doNextThing 1 3 4 (.getfield 29) := ⟨by decide +kernel, rfl⟩
theorem d_X6_doNextThing_4 : Dc cX6_doNextThing 4 3 7 (.invokevirtual 240) := ⟨by decide +kernel, rfl⟩
theorem d_X6_doNextThing_7 : Dc cX6_doNextThing 7 1 8 .pop := ⟨by decide +kernel, rfl⟩
theorem d_X6_doNextThing_8 : Dc cX6_doNextThing 8 1 9 (.aload_n 0) := ⟨by decide +kernel, rfl⟩
theorem d_X6_doNextThing_9 : Dc cX6_doNextThing 9 3 12 (.getfield 29) := ⟨by decide +kernel, rfl⟩
theorem d_X6_doNextThing_12 : Dc cX6_doNextThing 12 3 15 (.getfield 244) := ⟨by decide +kernel, rfl⟩
theorem d_X6_doNextThing_15 : decode cX6_doNextThing 15 = .ok (.lookupswitch 97 #[(0, 25), (1, 54)], 25) := by decide +kernel
theorem d_X6_doNextThing_40 : Dc cX6_doNextThing 40 1 41 (.aload_n 0) := ⟨by decide +kernel, rfl⟩
theorem d_X6_doNextThing_41 : Dc cX6_doNextThing 41 3 44 (.getfield 12) := ⟨by decide +kernel, rfl⟩
theorem d_X6_doNextThing_44 : Dc cX6_doNextThing 44 1 45 (.aload_n 0) := ⟨by decide +kernel, rfl⟩
theorem d_X6_doNextThing_45 : Dc cX6_doNextThing 45 3 48 (.getfield 29) := ⟨by decide +kernel, rfl⟩
theorem d_X6_doNextThing_48 : Dc cX6_doNextThing 48 3 51 (.getfield 247) := ⟨by decide +kernel, rfl⟩
theorem d_X6_doNextThing_51 : Dc cX6_doNextThing 51 1 52 (.aload_n 0) := ⟨by decide +kernel, rfl⟩
theorem d_X6_doNextThing_52 : Dc cX6_doNextThing 52 3 55 (.getfield 29) := ⟨by decide +kernel, rfl⟩
theorem d_X6_doNextThing_55 : Dc cX6_doNextThing 55 3 58 (.getfield 250) := ⟨by decide +kernel, rfl⟩
theorem d_X6_doNextThing_58 : Dc cX6_doNextThing 58 1 59 (.aload_n 0) := ⟨by decide +kernel, rfl⟩
theorem d_X6_doNextThing_59 : Dc cX6_doNextThing 59 3 62 (.getfield 29) := ⟨by decide +kernel, rfl⟩
theorem d_X6_doNextThing_62 : Dc cX6_doNextThing 62 3 65 (.getfield 253) := ⟨by decide +kernel, rfl⟩
theorem d_X6_doNextThing_65 : Dc cX6_doNextThing 65 3 68 (.invokevirtual 58) := ⟨by decide +kernel, rfl⟩
theorem d_X6_doNextThing_68 : decode cX6_doNextThing 68 = .ok (.ireturn, 1) := by decide +kernel
theorem d_X6_doNextThing_69 : Dc cX6_doNextThing 69 1 70 (.aload_n 0) := ⟨by decide +kernel, rfl⟩
theorem d_X6_doNextThing_70 : Dc cX6_doNextThing 70 3 73 (.getfield 12) := ⟨by decide +kernel, rfl⟩
theorem d_X6_doNextThing_73 : Dc cX6_doNextThing 73 1 74 (.aload_n 0) := ⟨by decide +kernel, rfl⟩
theorem d_X6_doNextThing_74 : Dc cX6_doNextThing 74 3 77 (.getfield 29) := ⟨by decide +kernel, rfl⟩
theorem d_X6_doNextThing_77 : Dc cX6_doNextThing 77 3 80 (.getfield 247) := ⟨by decide +kernel, rfl⟩
theorem d_X6_doNextThing_80 : Dc cX6_doNextThing 80 1 81 (.aload_n 0) := ⟨by decide +kernel, rfl⟩
theorem d_X6_doNextThing_81 : Dc cX6_doNextThing 81 3 84 (.getfield 29) := ⟨by decide +kernel, rfl⟩
theorem d_X6_doNextThing_84 : Dc cX6_doNextThing 84 3 87 (.getfield 250) := ⟨by decide +kernel, rfl⟩
theorem d_X6_doNextThing_87 : Dc cX6_doNextThing 87 1 88 (.aload_n 0) := ⟨by decide +kernel, rfl⟩
theorem d_X6_doNextThing_88 : Dc cX6_doNextThing 88 3 91 (.getfield 29) := ⟨by decide +kernel, rfl⟩
theorem d_X6_doNextThing_91 : Dc cX6_doNextThing 91 3 94 (.getfield 256) := ⟨by decide +kernel, rfl⟩
theorem d_X6_doNextThing_94 : Dc cX6_doNextThing 94 1 95 (.aload_n 0) := ⟨by decide +kernel, rfl⟩
theorem d_X6_doNextThing_95 : Dc cX6_doNextThing 95 3 98 (.getfield 29) := ⟨by decide +kernel, rfl⟩
theorem d_X6_doNextThing_98 : Dc cX6_doNextThing 98 3 101 (.getfield 257) := ⟨by decide +kernel, rfl⟩
theorem d_X6_doNextThing_101 : Dc cX6_doNextThing 101 1 102 (.aload_n 0) := ⟨by decide +kernel, rfl⟩
theorem d_X6_doNextThing_102 : Dc cX6_doNextThing 102 3 105 (.getfield 29) := ⟨by decide +kernel, rfl⟩
theorem d_X6_doNextThing_105 : Dc cX6_doNextThing 105 3 108 (.getfield 258) := ⟨by decide +kernel, rfl⟩
theorem d_X6_doNextThing_108 : Dc cX6_doNextThing 108 3 111 (.invokevirtual 47) := ⟨by decide +kernel, rfl⟩
theorem d_X6_doNextThing_111 : decode cX6_doNextThing 111 = .ok (.ireturn, 1) := by decide +kernel
theorem d_X6_doNextThing_112 : Dc cX6_doNextThing 112 1 113 (.aload_n 0) := ⟨by decide +kernel, rfl⟩
theorem d_X6_doNextThing_113 : Dc cX6_doNextThing 113 3 116 (.getfield 12) := ⟨by decide +kernel, rfl⟩
theorem d_X6_doNextThing_116 : Dc cX6_doNextThing 116 1 117 (.aload_n 0) := ⟨by decide +kernel, rfl⟩
theorem d_X6_doNextThing_117 : Dc cX6_doNextThing 117 3 120 (.getfield 29) := ⟨by decide +kernel, rfl⟩
theorem d_X6_doNextThing_120 : Dc cX6_doNextThing 120 3 123 (.getfield 258) := ⟨by decide +kernel, rfl⟩
theorem d_X6_doNextThing_123 : Dc cX6_doNextThing 123 3 126 (.invokevirtual 62) := ⟨by decide +kernel, rfl⟩
theorem d_X6_doNextThing_126 : decode cX6_doNextThing 126 = .ok (.ireturn, 1) := by decide +kernel
set_option maxHeartbeats 4000000 in
set_option maxRecDepth 20000 in
theorem c_X6_doNextThing {E : Ev} {n : Nat} {M : Mem} {w o b : Nat} {kn kp ln st se cn ce th nx ki pa co fo fr un da sp1 : Int} {s sb tx spn : Int → Int} {H : Int → Int → Int} {ad : Int → Nat} (hA : XA o ad b) (hB : XB E M w n o s sb H kn spn kp ad b) (hD : XD E M w n o kn kp tx ln st se ad b cn ce th nx ki pa co fo fr un da) (hq : nxAt tx ln nx sp1) (hs : 0 ≤ nx ∧ nx ≤ ln) (hok : (rd0 tx ln sp1).2.1 = 0) : MT E yX6_doNextThing cX6_doNextThing 1 (some .int) 6 1 4 [.ref o] n M ((fun v n' M' => v = some (.int (iI (g1 s (rd0 tx ln sp1)).1)) ∧ n ≤ n' ∧ XB E M' w n' o (g1 s (rd0 tx ln sp1)).2 sb H kn spn kp ad b ∧ (∃ ki' pa' co' fo' fr' un' da' : Int, XD E M' w n' o kn kp tx ln st se ad b cn ce th (rd0 tx ln sp1).1 ki' pa' co' fo' fr' un' da') ∧ ∀ q, (q < o ∨ o + 438 ≤ q) → q < n → M' q = M q)) := by
  refine MT.of (by decide) rfl (Nat.le_of_ble_eq_true rfl) ?_
  intro X g
  have g0 := g.1
  show V E X 0 0 n M 0 [some (.ref o)] []
  obtain ⟨h0, h187, hx4, hT, hkn, hkp, hst, how, hrg⟩ := id hD
  have hbi := hA.2.1.inn
  have hsp : 0 ≤ sp1 ∧ sp1 ≤ ln := by
    rcases hq with q | q
    · omega
    · have := q.2.1.2.1; omega
  have rb := rd1_b (f1 := 0) (f2 := 0) (f3 := 0) (f4 := 0) (f5 := 0) hT hsp
  rw [show rd1 tx ln sp1 0 0 0 0 0 = rd0 tx ln sp1 from rfl] at rb
  refine V.eqM (show M = xtU E M (o + 436) tx ln th nx ki pa co fo fr un da from (ov_id hx4).symm) ?_
  refine V.al0 g0 d_X6_doNextThing_0 ?_
  refine V.getf g0 d_X6_doNextThing_1 fl_X6_29 ((ov_n (by omega)).trans h0) (by rfl) ?_
  refine V.callV g0 (c_X3_readNext1 hT hs hq) ky_X3_readNext ki_X3_readNext ks2_X3_readNext lk_X6_240 xt_0 rfl rfl (Nat.le_of_ble_eq_true rfl) ⟨by omega, by omega⟩ rfl rfl (Nat.le_of_ble_eq_true rfl) d_X6_doNextThing_4 (fun v_4 n_4 M_4 h_4 => ?_)
  obtain ⟨e2, ki', pa', co', fo', fr', un', da', rfl, rfl, hv⟩ := h_4
  replace e2 := e2.symm
  subst e2
  have hv2 := hv hok
  have hB1 := hB.frm hA how (Nat.le_refl _) (M' := xtU E M (o + 436) tx ln th (rd0 tx ln sp1).1 ki' pa' co' fo' fr' un' da') (fun q hq => ov_n (by omega))
  have hD1 : XD E (xtU E M (o + 436) tx ln th (rd0 tx ln sp1).1 ki' pa' co' fo' fr' un' da') w n o kn kp tx ln st se ad b cn ce th (rd0 tx ln sp1).1 ki' pa' co' fo' fr' un' da' := ⟨(ov_n (by omega)).trans h0, (ov_n (by omega)).trans h187, ov_Bk, hT, hkn, hkp, hst, how, hrg⟩
  refine V.pop g0 d_X6_doNextThing_7 rfl ?_
  refine V.al0 g0 d_X6_doNextThing_8 ?_
  refine V.getf g0 d_X6_doNextThing_9 fl_X6_29 (by first | exact hD1.1 | exact xt_0) (by rfl) ?_
  refine V.getf g0 d_X6_doNextThing_12 fl_X6_244 (by first | exact hD1.1 | exact xt_0) (by rfl) ?_
  rcases hv2 with hv2 | hv2 | hv2
  · obtain ⟨hle, rfl, rfl, rfl, rfl⟩ := hv2
    refine V.lsw (q := 0) (off := 25) (t := 40) g0 d_X6_doNextThing_15 (by decide) (by decide) (by decide) (by decide) ?_
    refine V.al0 g0 d_X6_doNextThing_40 ?_
    refine V.getf g0 d_X6_doNextThing_41 fl_X6_12 (by first | exact hD1.1 | exact xt_0) (by rfl) ?_
    refine V.al0 g0 d_X6_doNextThing_44 ?_
    refine V.getf g0 d_X6_doNextThing_45 fl_X6_29 (by first | exact hD1.1 | exact xt_0) (by rfl) ?_
    refine V.getf g0 d_X6_doNextThing_48 fl_X6_247 (by first | exact hD1.1 | exact xt_0) (by rfl) ?_
    refine V.al0 g0 d_X6_doNextThing_51 ?_
    refine V.getf g0 d_X6_doNextThing_52 fl_X6_29 (by first | exact hD1.1 | exact xt_0) (by rfl) ?_
    refine V.getf g0 d_X6_doNextThing_55 fl_X6_250 (by first | exact hD1.1 | exact xt_0) (by rfl) ?_
    refine V.al0 g0 d_X6_doNextThing_58 ?_
    refine V.getf g0 d_X6_doNextThing_59 fl_X6_29 (by first | exact hD1.1 | exact xt_0) (by rfl) ?_
    refine V.getf g0 d_X6_doNextThing_62 fl_X6_253 (by first | exact hD1.1 | exact xt_0) (by rfl) ?_
    refine V.callV g0 (r_moveHolder hB1.1 (by omega) rb.2.2.2.2.1 (rb.2.2.2.2.2.1 (by omega)).1 (rb.2.2.2.2.2.1 (by omega)).2) ky_X2_moveHolder ki_X2_moveHolder ks2_X2_moveHolder lk_X6_58 hB1.1.h0.choose_spec rfl rfl (Nat.le_of_ble_eq_true rfl) ⟨by omega, by omega⟩ rfl rfl (Nat.le_of_ble_eq_true rfl) d_X6_doNextThing_65 (fun v_65 n_65 M_65 h_65 => ?_)
    obtain ⟨rfl, hn5, hS5, hf5⟩ := h_65
    refine V.iret g d_X6_doNextThing_68 (by omega) (by omega) ?_
    have e : g1 s (rd0 tx ln sp1) = _ := (if_neg (by omega)).trans (if_pos hle)
    rw [e]
    exact ⟨rfl, hn5, hB1.nowN hA how hn5 hf5 hS5, ⟨_, _, _, _, _, _, _, hD1.frm hn5 (fun q g1 => hf5 q (by omega) (by omega))⟩, fun q g1 g2 => (hf5 q (by omega) g2).trans (ov_n (by omega))⟩
  · obtain ⟨hle, rfl, rfl, rfl, rfl, rfl, rfl⟩ := hv2
    refine V.lsw (q := 0) (off := 54) (t := 69) g0 d_X6_doNextThing_15 (by decide) (by decide) (by decide) (by decide) ?_
    refine V.al0 g0 d_X6_doNextThing_69 ?_
    refine V.getf g0 d_X6_doNextThing_70 fl_X6_12 (by first | exact hD1.1 | exact xt_0) (by rfl) ?_
    refine V.al0 g0 d_X6_doNextThing_73 ?_
    refine V.getf g0 d_X6_doNextThing_74 fl_X6_29 (by first | exact hD1.1 | exact xt_0) (by rfl) ?_
    refine V.getf g0 d_X6_doNextThing_77 fl_X6_247 (by first | exact hD1.1 | exact xt_0) (by rfl) ?_
    refine V.al0 g0 d_X6_doNextThing_80 ?_
    refine V.getf g0 d_X6_doNextThing_81 fl_X6_29 (by first | exact hD1.1 | exact xt_0) (by rfl) ?_
    refine V.getf g0 d_X6_doNextThing_84 fl_X6_250 (by first | exact hD1.1 | exact xt_0) (by rfl) ?_
    refine V.al0 g0 d_X6_doNextThing_87 ?_
    refine V.getf g0 d_X6_doNextThing_88 fl_X6_29 (by first | exact hD1.1 | exact xt_0) (by rfl) ?_
    refine V.getf g0 d_X6_doNextThing_91 fl_X6_256 (by first | exact hD1.1 | exact xt_0) (by rfl) ?_
    refine V.al0 g0 d_X6_doNextThing_94 ?_
    refine V.getf g0 d_X6_doNextThing_95 fl_X6_29 (by first | exact hD1.1 | exact xt_0) (by rfl) ?_
    refine V.getf g0 d_X6_doNextThing_98 fl_X6_257 (by first | exact hD1.1 | exact xt_0) (by rfl) ?_
    refine V.al0 g0 d_X6_doNextThing_101 ?_
    refine V.getf g0 d_X6_doNextThing_102 fl_X6_29 (by first | exact hD1.1 | exact xt_0) (by rfl) ?_
    refine V.getf g0 d_X6_doNextThing_105 fl_X6_258 (by first | exact hD1.1 | exact xt_0) (by rfl) ?_
    refine V.callV g0 (r_giveVisa hB1.1 (by omega) how.2 rb.2.2.2.2.1 (rb.2.2.2.2.2.1 (by omega)).1 (rb.2.2.2.2.2.1 (by omega)).2 (rb.2.2.2.2.2.2 (by omega) (by omega) hok).1 (rb.2.2.2.2.2.2 (by omega) (by omega) hok).2) ky_X2_giveVisa ki_X2_giveVisa ks2_X2_giveVisa lk_X6_47 hB1.1.h0.choose_spec rfl rfl (Nat.le_of_ble_eq_true rfl) ⟨by omega, by omega⟩ rfl rfl (Nat.le_of_ble_eq_true rfl) d_X6_doNextThing_108 (fun v_108 n_108 M_108 h_108 => ?_)
    obtain ⟨rfl, hn5, hS5, hf5⟩ := h_108
    refine V.iret g d_X6_doNextThing_111 (by omega) (by omega) ?_
    have e : g1 s (rd0 tx ln sp1) = _ := (if_neg (by omega)).trans (if_neg (by omega))
    rw [e]
    exact ⟨rfl, hn5, hB1.nowN hA how hn5 hf5 hS5, ⟨_, _, _, _, _, _, _, hD1.frm hn5 (fun q g1 => hf5 q (by omega) (by omega))⟩, fun q g1 g2 => (hf5 q (by omega) g2).trans (ov_n (by omega))⟩
  · obtain ⟨hle, rfl, rfl⟩ := hv2
    refine V.lsw (q := 0) (off := 97) (t := 112) g0 d_X6_doNextThing_15 (by decide) (by decide) (by decide) (by decide) ?_
    refine V.al0 g0 d_X6_doNextThing_112 ?_
    refine V.getf g0 d_X6_doNextThing_113 fl_X6_12 (by first | exact hD1.1 | exact xt_0) (by rfl) ?_
    refine V.al0 g0 d_X6_doNextThing_116 ?_
    refine V.getf g0 d_X6_doNextThing_117 fl_X6_29 (by first | exact hD1.1 | exact xt_0) (by rfl) ?_
    refine V.getf g0 d_X6_doNextThing_120 fl_X6_258 (by first | exact hD1.1 | exact xt_0) (by rfl) ?_
    refine V.callV g0 (c_X2_endDays hB1.1 (by omega) rb.2.2.2.2.1) ky_X2_endDays ki_X2_endDays ks2_X2_endDays lk_X6_62 hB1.1.h0.choose_spec rfl rfl (Nat.le_of_ble_eq_true rfl) ⟨by omega, by omega⟩ rfl rfl (Nat.le_of_ble_eq_true rfl) d_X6_doNextThing_123 (fun v_123 n_123 M_123 h_123 => ?_)
    obtain ⟨rfl, hn5, hS5, hf5⟩ := h_123
    refine V.iret g d_X6_doNextThing_126 (by omega) (by omega) ?_
    have e : g1 s (rd0 tx ln sp1) = _ := if_pos hle
    rw [e]
    exact ⟨rfl, hn5, hB1.nowN hA how hn5 hf5 hS5, ⟨_, _, _, _, _, _, _, hD1.frm hn5 (fun q g1 => hf5 q (by omega) (by omega))⟩, fun q g1 g2 => (hf5 q (by omega) g2).trans (ov_n (by omega))⟩

theorem d_X6_perform_0 : Dc cX6_perform 0 1 1 (.aload_n 0) := ⟨by decide +kernel, rfl⟩
theorem d_X6_perform_1 : Dc cX6_perform 1 3 4 (.getfield 29) := ⟨by decide +kernel, rfl⟩
theorem d_X6_perform_4 : Dc cX6_perform 4 3 7 (.invokevirtual 73) := ⟨by decide +kernel, rfl⟩
theorem d_X6_perform_7 : Dc cX6_perform 7 1 8 (.istore_n 1) := ⟨by decide +kernel, rfl⟩
theorem d_X6_perform_8 : Dc cX6_perform 8 1 9 (.iload_n 1) := ⟨by decide +kernel, rfl⟩
theorem d_X6_perform_9 : Dc cX6_perform 9 1 10 (.iconst (-1)) := ⟨by decide +kernel, rfl⟩
theorem d_X6_perform_10 : Dj cX6_perform 10 13 18 (.if_icmp .eq) := ⟨8, by decide +kernel, rfl, by decide⟩
theorem d_X6_perform_13 : Dc cX6_perform 13 2 15 (.bipush (-100)) := ⟨by decide +kernel, rfl⟩
theorem d_X6_perform_15 : Dc cX6_perform 15 1 16 (.iload_n 1) := ⟨by decide +kernel, rfl⟩
theorem d_X6_perform_16 : Dc cX6_perform 16 1 17 .isub := ⟨by decide +kernel, rfl⟩
theorem d_X6_perform_17 : decode cX6_perform 17 = .ok (.ireturn, 1) := by decide +kernel
theorem d_X6_perform_18 : Dc cX6_perform 18 1 19 (.aload_n 0) := ⟨by decide +kernel, rfl⟩
theorem d_X6_perform_19 : Dc cX6_perform 19 3 22 (.getfield 16) := ⟨by decide +kernel, rfl⟩
theorem d_X6_perform_22 : Dc cX6_perform 22 1 23 (.aload_n 0) := ⟨by decide +kernel, rfl⟩
theorem d_X6_perform_23 : Dc cX6_perform 23 3 26 (.getfield 12) := ⟨by decide +kernel, rfl⟩
theorem d_X6_perform_26 : Dc cX6_perform 26 3 29 (.invokevirtual 33) := ⟨by decide +kernel, rfl⟩
theorem d_X6_perform_29 : Dc cX6_perform 29 1 30 (.aload_n 0) := ⟨by decide +kernel, rfl⟩
theorem d_X6_perform_30 : Dc cX6_perform 30 3 33 (.getfield 29) := ⟨by decide +kernel, rfl⟩
theorem d_X6_perform_33 : Dc cX6_perform 33 3 36 (.getfield 76) := ⟨by decide +kernel, rfl⟩
theorem d_X6_perform_36 : Dc cX6_perform 36 1 37 (.istore_n 2) := ⟨by decide +kernel, rfl⟩
theorem d_X6_perform_37 : Dc cX6_perform 37 1 38 (.aload_n 0) := ⟨by decide +kernel, rfl⟩
theorem d_X6_perform_38 : Dc cX6_perform 38 3 41 (.getfield 29) := ⟨by decide +kernel, rfl⟩
theorem d_X6_perform_41 : Dc cX6_perform 41 3 44 (.invokevirtual 80) := ⟨by decide +kernel, rfl⟩
theorem d_X6_perform_44 : Dc cX6_perform 44 1 45 (.iconst 0) := ⟨by decide +kernel, rfl⟩
theorem d_X6_perform_45 : Dc cX6_perform 45 1 46 (.istore_n 3) := ⟨by decide +kernel, rfl⟩
theorem d_X6_perform_46 : Dc cX6_perform 46 1 47 (.iload_n 3) := ⟨by decide +kernel, rfl⟩
theorem d_X6_perform_47 : Dc cX6_perform 47 1 48 (.iload_n 2) := ⟨by decide +kernel, rfl⟩
theorem d_X6_perform_48 : Dj cX6_perform 48 51 93 (.if_icmp .ge) := ⟨45, by decide +kernel, rfl, by decide⟩
theorem d_X6_perform_51 : Dc cX6_perform 51 1 52 (.aload_n 0) := ⟨by decide +kernel, rfl⟩
theorem d_X6_perform_52 : Dc cX6_perform 52 3 55 (.invokevirtual 83) := ⟨by decide +kernel, rfl⟩
theorem d_X6_perform_55 : Dc cX6_perform 55 2 57 (.istore 4) := ⟨by decide +kernel, rfl⟩
theorem d_X6_perform_57 : Dc cX6_perform 57 2 59 (.iload 4) := ⟨by decide +kernel, rfl⟩
theorem d_X6_perform_59 : Dj cX6_perform 59 62 87 (.ifCond .ge) := ⟨28, by decide +kernel, rfl, by decide⟩
theorem d_X6_perform_62 : Dc cX6_perform 62 1 63 (.aload_n 0) := ⟨by decide +kernel, rfl⟩
theorem d_X6_perform_63 : Dc cX6_perform 63 3 66 (.getfield 12) := ⟨by decide +kernel, rfl⟩
theorem d_X6_perform_66 : Dc cX6_perform 66 1 67 (.aload_n 0) := ⟨by decide +kernel, rfl⟩
theorem d_X6_perform_67 : Dc cX6_perform 67 3 70 (.getfield 16) := ⟨by decide +kernel, rfl⟩
theorem d_X6_perform_70 : Dc cX6_perform 70 3 73 (.invokevirtual 33) := ⟨by decide +kernel, rfl⟩
theorem d_X6_perform_73 : Dc cX6_perform 73 1 74 (.aload_n 0) := ⟨by decide +kernel, rfl⟩
theorem d_X6_perform_74 : Dc cX6_perform 74 1 75 (.iload_n 3) := ⟨by decide +kernel, rfl⟩
theorem d_X6_perform_75 : Dc cX6_perform 75 3 78 (.putfield 86) := ⟨by decide +kernel, rfl⟩
theorem d_X6_perform_78 : Dc cX6_perform 78 1 79 (.aload_n 0) := ⟨by decide +kernel, rfl⟩
theorem d_X6_perform_79 : Dc cX6_perform 79 2 81 (.iload 4) := ⟨by decide +kernel, rfl⟩
theorem d_X6_perform_81 : Dc cX6_perform 81 3 84 (.putfield 89) := ⟨by decide +kernel, rfl⟩
theorem d_X6_perform_84 : Dc cX6_perform 84 2 86 (.bipush (-4)) := ⟨by decide +kernel, rfl⟩
theorem d_X6_perform_86 : decode cX6_perform 86 = .ok (.ireturn, 1) := by decide +kernel
theorem d_X6_perform_87 : Dc cX6_perform 87 3 90 (.iinc 3 1) := ⟨by decide +kernel, rfl⟩
theorem d_X6_perform_90 : Dj cX6_perform 90 93 46 .goto := ⟨(-44), by decide +kernel, rfl, by decide⟩
theorem d_X6_perform_93 : Dc cX6_perform 93 1 94 (.aload_n 0) := ⟨by decide +kernel, rfl⟩
theorem d_X6_perform_94 : Dc cX6_perform 94 1 95 (.iload_n 2) := ⟨by decide +kernel, rfl⟩
theorem d_X6_perform_95 : Dc cX6_perform 95 3 98 (.invokevirtual 41) := ⟨by decide +kernel, rfl⟩
theorem d_X6_perform_98 : decode cX6_perform 98 = .ok (.ireturn, 1) := by decide +kernel
set_option maxHeartbeats 4000000 in
set_option maxRecDepth 20000 in
theorem c_X6_perform {E : Ev} {n : Nat} {M : Mem} {w o : Nat} {A : AS} (hX : XR E M w n o A) : MT E yX6_perform cX6_perform 5 (some .int) 7 61 244 [.ref o] n M ((RX E M w n o (a_perform A))) := by
  refine MT.of (by decide) rfl (Nat.le_of_ble_eq_true rfl) ?_
  intro X g
  have g0 := g.1
  show V E X 0 0 n M 0 [some (.ref o), none, none, none, none] []
  obtain ⟨sb, ad, b, cn, ce, th, nx, ki, pa, co, fo, fr, un, da, hA, hB, hD⟩ := id hX
  obtain ⟨h0, h187, hx4, hT, hkn, hkp, hst, how, hrg⟩ := id hD
  have hO := hB.1.ok
  have hbi := hA.2.1.inn
  have hl := hT.1
  have rf := RF_b hT 61 (sp := 0) (n := 0) (by omega)
  refine V.eqM (show M = xtU E M (o + 436) A.2.2.2.2.2.1 A.2.2.2.2.2.2.1 th nx ki pa co fo fr un da from (ov_id hx4).symm) ?_
  refine V.al0 g0 d_X6_perform_0 ?_
  refine V.getf g0 d_X6_perform_1 fl_X6_29 ((ov_n (by omega)).trans h0) (by rfl) ?_
  refine V.callV g0 (c_X3_findFaultN hT) ky_X3_findFault ki_X3_findFault ks2_X3_findFault lk_X6_73 xt_0 rfl rfl (Nat.le_of_ble_eq_true rfl) ⟨by omega, by omega⟩ rfl rfl (Nat.le_of_ble_eq_true rfl) d_X6_perform_4 (fun v_4 n_4 M_4 h_4 => ?_)
  obtain ⟨e2, rfl, th1, nx1, ki1, pa1, co1, fo1, fr1, un1, da1, rfl, hth⟩ := h_4
  replace e2 := e2.symm
  subst e2
  have hB0 := hB.frm hA how (Nat.le_refl _) (M' := xtU E M (o + 436) A.2.2.2.2.2.1 A.2.2.2.2.2.2.1 th1 nx1 ki1 pa1 co1 fo1 fr1 un1 da1) (fun q hq => ov_n (by omega))
  have hD0 : XD E (xtU E M (o + 436) A.2.2.2.2.2.1 A.2.2.2.2.2.2.1 th1 nx1 ki1 pa1 co1 fo1 fr1 un1 da1) w n o A.2.2.1 A.2.2.2.2.1 A.2.2.2.2.2.1 A.2.2.2.2.2.2.1 A.2.2.2.2.2.2.2.1 A.2.2.2.2.2.2.2.2 ad b cn ce th1 nx1 ki1 pa1 co1 fo1 fr1 un1 da1 := ⟨(ov_n (by omega)).trans h0, (ov_n (by omega)).trans h187, ov_Bk, hT, hkn, hkp, hst, how, hrg⟩
  rcases RF_w (tx := A.2.2.2.2.2.1) (ln := A.2.2.2.2.2.2.1) 61 0 0 with hw | hw
  · skip
    rw [if_pos hw]
    refine V.is1 g0 d_X6_perform_7 ?_
    refine V.il1 g0 d_X6_perform_8 ?_
    refine V.iconst g0 d_X6_perform_9 ?_
    refine V.icmpeq g0 d_X6_perform_10 (by omega) (fun c_10 => ?_) (fun c_10 => ?_)
    · skip
      refine V.al0 g0 d_X6_perform_18 ?_
      refine V.getf g0 d_X6_perform_19 fl_X6_16 hD0.1 (by rfl) ?_
      refine V.al0 g0 d_X6_perform_22 ?_
      refine V.getf g0 d_X6_perform_23 fl_X6_12 hD0.1 (by rfl) ?_
      refine V.callV g0 (r_copy hB0.2.1 hB0.1 (by omega) (by omega)) ky_X2_copyFrom ki_X2_copyFrom ks2_X2_copyFrom lk_X6_33 hB0.2.1.h0.choose_spec rfl rfl (Nat.le_of_ble_eq_true rfl) ⟨by omega, by omega⟩ rfl rfl (Nat.le_of_ble_eq_true rfl) d_X6_perform_26 (fun v_26 n_26 M_26 h_26 => ?_)
      obtain ⟨rfl, e2, hS1, hf1⟩ := h_26
      replace e2 := e2.symm
      subst e2
      have hB1 := hB0.bef hA how.1 hf1 hS1
      have hD1 := hD0.frm (Nat.le_refl _) (fun q hq => hf1 q (by omega))
      refine V.al0 g0 d_X6_perform_29 ?_
      refine V.getf g0 d_X6_perform_30 fl_X6_29 hD1.1 (by rfl) ?_
      refine V.getf g0 d_X6_perform_33 fl_X6_76 (hD1.2.2.1 0 (by omega)) (by rfl) ?_
      rw [hth hw]
      refine V.is2 g0 d_X6_perform_36 ?_
      refine V.al0 g0 d_X6_perform_37 ?_
      refine V.getf g0 d_X6_perform_38 fl_X6_29 hD1.1 (by rfl) ?_
      refine V.eqM (show M_26 = xtU E M_26 (o + 436) A.2.2.2.2.2.1 A.2.2.2.2.2.2.1 th1 nx1 ki1 pa1 co1 fo1 fr1 un1 da1 from (ov_id hD1.2.2.1).symm) ?_
      refine V.callVf g0 (c_X3_goToStartN hT) ky_X3_goToStart ki_X3_goToStart ks2_X3_goToStart lk_X6_80 xt_0 rfl rfl (Nat.le_of_ble_eq_true rfl) ⟨by omega, by omega⟩ rfl rfl (Nat.le_of_ble_eq_true rfl) d_X6_perform_41 ?_
      have hB2 := hB1.frm hA how (Nat.le_refl _) (M' := xtU E M_26 (o + 436) A.2.2.2.2.2.1 A.2.2.2.2.2.2.1 th1 0 ki1 pa1 co1 fo1 fr1 un1 da1) (fun q hq => ov_n (by omega))
      have hD2 : XD E (xtU E M_26 (o + 436) A.2.2.2.2.2.1 A.2.2.2.2.2.2.1 th1 0 ki1 pa1 co1 fo1 fr1 un1 da1) w n o A.2.2.1 A.2.2.2.2.1 A.2.2.2.2.2.1 A.2.2.2.2.2.2.1 A.2.2.2.2.2.2.2.1 A.2.2.2.2.2.2.2.2 ad b cn ce th1 0 ki1 pa1 co1 fo1 fr1 un1 da1 := ⟨(ov_n (by omega)).trans hD1.1, (ov_n (by omega)).trans hD1.2.1, ov_Bk, hT, hkn, hkp, hst, how, hrg⟩
      refine V.iconst g0 d_X6_perform_44 ?_
      refine V.is3 g0 d_X6_perform_45 ?_
      have LP : ∀ (f j n1 : Nat) (M1 : Mem) (s1 : Int → Int) (th2 nx2 ki2 pa2 co2 fo2 fr2 un2 da2 : Int), n ≤ n1 → XB E M1 w n1 o s1 A.1 A.2.1 A.2.2.1 A.2.2.2.1 A.2.2.2.2.1 ad b → XD E M1 w n1 o A.2.2.1 A.2.2.2.2.1 A.2.2.2.2.2.1 A.2.2.2.2.2.2.1 A.2.2.2.2.2.2.2.1 A.2.2.2.2.2.2.2.2 ad b cn ce th2 nx2 ki2 pa2 co2 fo2 fr2 un2 da2 → (∀ q, (q < o ∨ o + 438 ≤ q) → q < n → M1 q = M q) → (j : Int) ≤ 61 →
          ((∃ (sp1 : Int) (gf : Nat), (j : Int) < (RF A.2.2.2.2.2.1 A.2.2.2.2.2.2.1 61 0 0).1 ∧ nxAt A.2.2.2.2.2.1 A.2.2.2.2.2.2.1 nx2 sp1 ∧ (0 ≤ nx2 ∧ nx2 ≤ A.2.2.2.2.2.2.1) ∧ (0 ≤ sp1 ∧ sp1 ≤ A.2.2.2.2.2.2.1) ∧ (RT A.2.2.2.2.2.1 A.2.2.2.2.2.2.1 61 0 0 A.1) = RT A.2.2.2.2.2.1 A.2.2.2.2.2.2.1 gf sp1 j s1 ∧ (RF A.2.2.2.2.2.1 A.2.2.2.2.2.2.1 gf sp1 j).2.2 = 0 ∧ (RF A.2.2.2.2.2.1 A.2.2.2.2.2.2.1 gf sp1 j).1 = (RF A.2.2.2.2.2.1 A.2.2.2.2.2.2.1 61 0 0).1 ∧ A.2.2.2.2.2.2.1 - sp1 < gf) ∨ ((j : Int) = (RF A.2.2.2.2.2.1 A.2.2.2.2.2.2.1 61 0 0).1 ∧ (RT A.2.2.2.2.2.1 A.2.2.2.2.2.2.1 61 0 0 A.1) = ((j : Int), 0, s1))) → ((RF A.2.2.2.2.2.1 A.2.2.2.2.2.2.1 61 0 0).1 - j).toNat = f →
          V E X j (4 * j) n1 M1 46 [some (.ref o), some (.int (iI (-1))), some (.int (iI (RF A.2.2.2.2.2.1 A.2.2.2.2.2.2.1 61 0 0).1)), some (.int (iI (j : Int))), none] [] := by
        intro f
        induction f using Nat.strongRecOn with
        | _ f ih =>
        intro j n1 M1 s1 th2 nx2 ki2 pa2 co2 fo2 fr2 un2 da2 hn1 hB3 hD3 hf3 hj61 hcase hfm
        have how3 := hD3.2.2.2.2.2.2.2.1
        refine V.il3 g0 d_X6_perform_46 ?_
        refine V.il2 g0 d_X6_perform_47 ?_
        refine V.icmpge g0 d_X6_perform_48 (by omega) (fun c_48 => ?_) (fun c_48 => ?_)
        · skip
          rcases hcase with ⟨sp1, gf, hj, -⟩ | ⟨hj, hRT⟩
          · exfalso; omega
          refine V.al0 g0 d_X6_perform_93 ?_
          refine V.il2 g0 d_X6_perform_94 ?_
          refine V.callV g0 (c_X6_recorded (A := A) (s := s1) (z := (RF A.2.2.2.2.2.1 A.2.2.2.2.2.2.1 61 0 0).1) ⟨ad, b, cn, ce, _, _, _, _, _, _, _, _, _, hA, hB3, hD3⟩ (by constructor <;> omega) (fun q => absurd q (by omega))) ky_X6_recorded ki_X6_recorded ks2_X6_recorded lk_X6_41 hD3.1 rfl rfl (Nat.le_of_ble_eq_true rfl) ⟨by omega, by omega⟩ rfl rfl (Nat.le_of_ble_eq_true rfl) d_X6_perform_95 (fun v_95 n_95 M_95 h_95 => ?_)
          obtain ⟨rfl, e6, hX6, hf6⟩ := h_95
          replace e6 := e6.symm
          subst e6
          refine V.iret g d_X6_perform_98 (by omega) (by omega) ?_
          rw [actA_p (by omega)] at hX6
          unfold a_perform
          rw [if_neg (fun q => q hw), hRT, if_neg (fun q => q rfl)]
          exact ⟨by rw [← hj], hn1, hX6, fun q a c => (hf6 q a).trans (hf3 q a c)⟩
        · skip
          rcases hcase with ⟨sp1, gf, hj, hq, hs2, hsp, hRT, hRF, hRF1, hg⟩ | ⟨hj, -⟩
          rotate_left
          · exfalso; omega
          have hok := (RF_free (by omega) hRF).1
          have hrd := rd1_b (f1 := 0) (f2 := 0) (f3 := 0) (f4 := 0) (f5 := 0) hT hsp
          rw [show rd1 A.2.2.2.2.2.1 A.2.2.2.2.2.2.1 sp1 0 0 0 0 0 = rd0 A.2.2.2.2.2.1 A.2.2.2.2.2.2.1 sp1 from rfl] at hrd
          have hpr := (hrd.2.2.1 hok).1
          have hgo := g1_ok hB3.1.ok (rd0 A.2.2.2.2.2.1 A.2.2.2.2.2.2.1 sp1)
          have heb := err1_b s1 (rd0 A.2.2.2.2.2.1 A.2.2.2.2.2.2.1 sp1)
          refine V.al0 g0 d_X6_perform_51 ?_
          refine V.callV g0 (c_X6_doNextThing hA hB3 hD3 hq hs2 hok) ky_X6_doNextThing ki_X6_doNextThing ks2_X6_doNextThing lk_X6_83 hD3.1 rfl rfl (Nat.le_of_ble_eq_true rfl) ⟨by omega, by omega⟩ rfl rfl (Nat.le_of_ble_eq_true rfl) d_X6_perform_52 (fun v_52 n_52 M_52 h_52 => ?_)
          obtain ⟨rfl, hn4, hB4, ⟨ki4, pa4, co4, fo4, fr4, un4, da4, hD4⟩, hf4⟩ := h_52
          have how4 := hD4.2.2.2.2.2.2.2.1
          refine V.is4 g0 d_X6_perform_55 ?_
          refine V.il4 g0 d_X6_perform_57 ?_
          refine V.ifge g0 d_X6_perform_59 hgo.1 (fun c_59 => ?_) (fun c_59 => ?_)
          · skip
            have he : err1 s1 (rd0 A.2.2.2.2.2.1 A.2.2.2.2.2.2.1 sp1) = 0 := Decidable.byContradiction fun q => by
              rw [g1_n q] at c_59
              have c2 : ¬ err1 s1 (rd0 A.2.2.2.2.2.1 A.2.2.2.2.2.2.1 sp1) < 0 := c_59
              omega
            refine V.inc3 g0 d_X6_perform_87 ?_
            refine V.goto g0 d_X6_perform_90 ?_
            refine V.weak2 (ih (f - 1) (by omega) (j + 1) n_52 M_52 (g1 s1 (rd0 A.2.2.2.2.2.1 A.2.2.2.2.2.2.1 sp1)).2 _ _ _ _ _ _ _ _ _ (by omega) hB4 hD4 (fun q a c => (hf4 q a (by omega)).trans (hf3 q a c)) (by omega) ?_ (by omega)) (lcLe_s (lcLe_s (lcLe_s (lcLe_s (lcLe_f lcLe_n)))))
            rw [g1_y he]
            have hfree := RF_free (by omega) hRF
            by_cases hlt : (rd0 A.2.2.2.2.2.1 A.2.2.2.2.2.2.1 sp1).1 < A.2.2.2.2.2.2.1
            · have h2 := hfree.2 hlt
              have hnx : nxt A.2.2.2.2.2.1 A.2.2.2.2.2.2.1 (rd0 A.2.2.2.2.2.1 A.2.2.2.2.2.2.1 sp1).1 0 59 59 := Classical.byContradiction fun q => by have e := (tk_no q).2.2; have := h2.1; rw [e] at this; exact absurd this (by decide)
              have ey := tk_yes hnx
              have h3 := h2.2
              rw [ey.2.1] at h3
              have hst4 := RF_step (by omega) hfree.1 hlt h2.1 (tx := A.2.2.2.2.2.1) (n := (j : Int)) (f := gf)
              rw [ey.2.1] at hst4
              have hgt := RF_gt hT (f := gf - 1) (sp := (rd0 A.2.2.2.2.2.1 A.2.2.2.2.2.2.1 sp1).1 + 1) (n := (j : Int) + 1) (by have := hrd.1.2; omega) (by omega) h3
              refine Or.inl ⟨(rd0 A.2.2.2.2.2.1 A.2.2.2.2.2.2.1 sp1).1 + 1, gf - 1, by rw [← hRF1, hst4]; omega, Or.inr ⟨by omega, hnx, rfl⟩, by omega, by omega, ?_, h3, by rw [← hRF1, hst4]; rfl, by omega⟩
              rw [hRT, RT_step (by omega) he hlt, ey.2.1]; rfl
            · have hdn := RF_done (by omega) hfree.1 hlt (tx := A.2.2.2.2.2.1) (n := (j : Int)) (f := gf)
              refine Or.inr ⟨by rw [← hRF1, hdn]; rfl, ?_⟩
              rw [hRT, RT_done (by omega) he hlt]; rfl
          · skip
            have he : err1 s1 (rd0 A.2.2.2.2.2.1 A.2.2.2.2.2.2.1 sp1) ≠ 0 := fun q => by
              rw [g1_y q] at c_59
              have := do1_b hB3.1.ok q
              omega
            refine V.al0 g0 d_X6_perform_62 ?_
            refine V.getf g0 d_X6_perform_63 fl_X6_12 hD4.1 (by rfl) ?_
            refine V.al0 g0 d_X6_perform_66 ?_
            refine V.getf g0 d_X6_perform_67 fl_X6_16 hD4.1 (by rfl) ?_
            refine V.callV g0 (r_copy hB4.1 hB4.2.1 (by omega) (by omega)) ky_X2_copyFrom ki_X2_copyFrom ks2_X2_copyFrom lk_X6_33 hB4.1.h0.choose_spec rfl rfl (Nat.le_of_ble_eq_true rfl) ⟨by omega, by omega⟩ rfl rfl (Nat.le_of_ble_eq_true rfl) d_X6_perform_70 (fun v_70 n_70 M_70 h_70 => ?_)
            obtain ⟨rfl, e5, hS5, hf5⟩ := h_70
            replace e5 := e5.symm
            subst e5
            have hB5 := hB4.nowN hA how4 (Nat.le_refl _) (fun q a _ => hf5 q a) hS5
            have hD5 := hD4.frm (Nat.le_refl _) (fun q hq => hf5 q (by omega))
            refine V.al0 g0 d_X6_perform_73 ?_
            refine V.il3 g0 d_X6_perform_74 ?_
            refine V.putf g0 d_X6_perform_75 fp_X6_86 hD5.1 (Nat.le_of_ble_eq_true rfl) rfl rfl ?_
            skip
            refine V.al0 g0 d_X6_perform_78 ?_
            refine V.il4 g0 d_X6_perform_79 ?_
            refine V.putf g0 d_X6_perform_81 fp_X6_89 up_s (Nat.le_of_ble_eq_true rfl) rfl rfl ?_
            refine V.eqM (show _ = va_up M_70 o (XO o A.2.2.1 b A.2.2.2.2.1 (j : Int) (g1 s1 (rd0 A.2.2.2.2.2.1 A.2.2.2.2.2.2.1 sp1)).1) by rw [up_up]; rfl) ?_
            refine V.bipush g0 d_X6_perform_84 (by decide) ?_
            refine V.iret g d_X6_perform_86 (by omega) (by omega) ?_
            have hRT2 : (RT A.2.2.2.2.2.1 A.2.2.2.2.2.2.1 61 0 0 A.1) = ((j : Int), err1 s1 (rd0 A.2.2.2.2.2.1 A.2.2.2.2.2.2.1 sp1), s1) := hRT.trans (RT_stop (by omega) he)
            have eg : (g1 s1 (rd0 A.2.2.2.2.2.1 A.2.2.2.2.2.2.1 sp1)).1 = err1 s1 (rd0 A.2.2.2.2.2.1 A.2.2.2.2.2.2.1 sp1) := by rw [g1_n he]
            unfold a_perform
            rw [if_neg (fun q => q hw), hRT2, if_pos he, eg]
            exact ⟨rfl, by omega, ⟨A.1, ad, b, (j : Int), err1 s1 (rd0 A.2.2.2.2.2.1 A.2.2.2.2.2.2.1 sp1), _, _, _, _, _, _, _, _, _, hA, hB5.frm hA how4 (Nat.le_refl _) (fun q hq => va_up_ne _ _ (by omega)), ⟨up_s, (va_up_ne _ _ (by omega)).trans hD5.2.1, Bk.fr hD5.2.2.1 (fun q a c => va_up_ne _ _ (by omega)), hT, hkn, hkp, Or.inr ⟨he, rfl, rfl⟩, how4, by constructor <;> omega, by constructor <;> omega⟩⟩, fun q a c => (va_up_ne _ _ (by omega)).trans ((hf5 q (by omega)).trans ((hf4 q a (by omega)).trans (hf3 q a c)))⟩
      exact LP _ 0 n _ A.1 _ _ _ _ _ _ _ _ _ (Nat.le_refl _) hB2 hD2 (fun q a _ => (ov_n (by omega)).trans ((hf1 q (by omega)).trans (ov_n (by omega)))) (by decide) (Or.inl ⟨0, 61, RF_gt hT (by omega) (by omega) hw, Or.inl ⟨rfl, rfl⟩, by omega, by omega, rfl, hw, rfl, by omega⟩) rfl
    · skip
      exfalso; omega
  · skip
    rw [if_neg (by omega)]
    refine V.is1 g0 d_X6_perform_7 ?_
    refine V.il1 g0 d_X6_perform_8 ?_
    refine V.iconst g0 d_X6_perform_9 ?_
    refine V.icmpeq g0 d_X6_perform_10 (by omega) (fun c_10 => ?_) (fun c_10 => ?_)
    · skip
      exfalso; omega
    · skip
      refine V.bipush g0 d_X6_perform_13 (by decide) ?_
      refine V.il1 g0 d_X6_perform_15 ?_
      refine V.isub g0 d_X6_perform_16 ?_
      refine V.iret g d_X6_perform_17 (by omega) (by omega) ?_
      unfold a_perform
      rw [if_pos (by omega)]
      exact ⟨rfl, Nat.le_refl _, ⟨sb, ad, b, cn, ce, th1, nx1, ki1, pa1, co1, fo1, fr1, un1, da1, hA, hB0, hD0⟩, fun q hq _ => ov_n (by omega)⟩
