theorem d_X6_dropOldest_0 : Dc cX6_dropOldest 0 1 1 (.aload_n 0) := ⟨by decide +kernel, rfl⟩
theorem d_X6_dropOldest_1 : Dc cX6_dropOldest 1 3 4 (.getfield 22) := ⟨by decide +kernel, rfl⟩
theorem d_X6_dropOldest_4 : Dc cX6_dropOldest 4 1 5 (.iconst 0) := ⟨by decide +kernel, rfl⟩
theorem d_X6_dropOldest_5 : Dc cX6_dropOldest 5 1 6 .aaload := ⟨by decide +kernel, rfl⟩
theorem d_X6_dropOldest_6 : Dc cX6_dropOldest 6 1 7 (.astore_n 1) := ⟨by decide +kernel, rfl⟩
theorem d_X6_dropOldest_7 : Dc cX6_dropOldest 7 1 8 (.iconst 1) := ⟨by decide +kernel, rfl⟩
theorem d_X6_dropOldest_8 : Dc cX6_dropOldest 8 1 9 (.istore_n 2) := ⟨by decide +kernel, rfl⟩
theorem d_X6_dropOldest_9 : Dc cX6_dropOldest 9 1 10 (.iload_n 2) := ⟨by decide +kernel, rfl⟩
theorem d_X6_dropOldest_10 : Dc cX6_dropOldest 10 1 11 (.iconst 4) := ⟨by decide +kernel, rfl⟩
theorem d_X6_dropOldest_11 : Dj cX6_dropOldest 11 14 34 (.if_icmp .ge) := ⟨23, by decide +kernel, rfl, by decide⟩
theorem d_X6_dropOldest_14 : Dc cX6_dropOldest 14 1 15 (.aload_n 0) := ⟨by decide +kernel, rfl⟩
theorem d_X6_dropOldest_15 : Dc cX6_dropOldest 15 3 18 (.getfield 22) := ⟨by decide +kernel, rfl⟩
theorem d_X6_dropOldest_18 : Dc cX6_dropOldest 18 1 19 (.iload_n 2) := ⟨by decide +kernel, rfl⟩
theorem d_X6_dropOldest_19 : Dc cX6_dropOldest 19 1 20 (.iconst 1) := ⟨by decide +kernel, rfl⟩
theorem d_X6_dropOldest_20 : Dc cX6_dropOldest 20 1 21 .isub := ⟨by decide +kernel, rfl⟩
theorem d_X6_dropOldest_21 : Dc cX6_dropOldest 21 1 22 (.aload_n 0) := ⟨by decide +kernel, rfl⟩
theorem d_X6_dropOldest_22 : Dc cX6_dropOldest 22 3 25 (.getfield 22) := ⟨by decide +kernel, rfl⟩
theorem d_X6_dropOldest_25 : Dc cX6_dropOldest 25 1 26 (.iload_n 2) := ⟨by decide +kernel, rfl⟩
theorem d_X6_dropOldest_26 : Dc cX6_dropOldest 26 1 27 .aaload := ⟨by decide +kernel, rfl⟩
theorem d_X6_dropOldest_27 : Dc cX6_dropOldest 27 1 28 .aastore := ⟨by decide +kernel, rfl⟩
theorem d_X6_dropOldest_28 : Dc cX6_dropOldest 28 3 31 (.iinc 2 1) := ⟨by decide +kernel, rfl⟩
theorem d_X6_dropOldest_31 : Dj cX6_dropOldest 31 34 9 .goto := ⟨(-22), by decide +kernel, rfl, by decide⟩
theorem d_X6_dropOldest_34 : Dc cX6_dropOldest 34 1 35 (.aload_n 0) := ⟨by decide +kernel, rfl⟩
theorem d_X6_dropOldest_35 : Dc cX6_dropOldest 35 3 38 (.getfield 22) := ⟨by decide +kernel, rfl⟩
theorem d_X6_dropOldest_38 : Dc cX6_dropOldest 38 1 39 (.iconst 3) := ⟨by decide +kernel, rfl⟩
theorem d_X6_dropOldest_39 : Dc cX6_dropOldest 39 1 40 (.aload_n 1) := ⟨by decide +kernel, rfl⟩
theorem d_X6_dropOldest_40 : Dc cX6_dropOldest 40 1 41 .aastore := ⟨by decide +kernel, rfl⟩
theorem d_X6_dropOldest_41 : Dc cX6_dropOldest 41 1 42 (.aload_n 0) := ⟨by decide +kernel, rfl⟩
theorem d_X6_dropOldest_42 : Dc cX6_dropOldest 42 1 43 .dup := ⟨by decide +kernel, rfl⟩
theorem d_X6_dropOldest_43 : Dc cX6_dropOldest 43 3 46 (.getfield 96) := ⟨by decide +kernel, rfl⟩
theorem d_X6_dropOldest_46 : Dc cX6_dropOldest 46 1 47 (.iconst 1) := ⟨by decide +kernel, rfl⟩
theorem d_X6_dropOldest_47 : Dc cX6_dropOldest 47 1 48 .isub := ⟨by decide +kernel, rfl⟩
theorem d_X6_dropOldest_48 : Dc cX6_dropOldest 48 3 51 (.putfield 96) := ⟨by decide +kernel, rfl⟩
theorem d_X6_dropOldest_51 : decode cX6_dropOldest 51 = .ok (.return_, 1) := by decide +kernel
set_option maxHeartbeats 4000000 in
set_option maxRecDepth 20000 in
theorem c_X6_dropOldest {E : Ev} {n : Nat} {M : Mem} {o b : Nat} {kp cn ce : Int} {ad : Int → Nat} (h0 : M o = XO o 4 b kp cn ce) (h1 : M (o + 187) = ra E 3 4 (hrF ad)) (hu : ∀ i, 0 ≤ i → i < 4 → (∃ fs, M (ad i) = .inr (2, fs)) ∧ ad i ≠ o + 187) : MT E yX6_dropOldest cX6_dropOldest 3 none 0 0 0 [.ref o] n M ((PF none n (va_up (va_up M (o + 187) (ra E 3 4 (hrF (rotA ad)))) o (XO o 3 b kp cn ce)))) := by
  refine MT.of (by decide) rfl (Nat.le_of_ble_eq_true rfl) ?_
  intro X g
  have g0 := g.1
  show V E X 0 0 n M 0 [some (.ref o), none, none] []
  have hm0 : ∀ x, va_up M (o + 187) x o = XO o 4 b kp cn ce := fun x => (va_up_ne _ _ (by omega)).trans h0
  refine V.eqM (show M = va_up M (o + 187) (ra E 3 4 (hrF (shA ad 0))) by rw [shA_0]; exact (up_same h1).symm) ?_
  refine V.al0 g0 d_X6_dropOldest_0 ?_
  refine V.getf g0 d_X6_dropOldest_1 fl_X6_22 (by first | exact hm0 _ | exact up_s) (by rfl) ?_
  refine V.iconst g0 d_X6_dropOldest_4 ?_
  refine V.aald g0 d_X6_dropOldest_5 up_s rfl (by omega) (by decide) ?_
  rw [show hrF (shA ad 0) 0 = some (ad 0) from congrArg some (shA_at (by omega)), show va_rf (some (ad 0)) = Value.ref (ad 0) from rfl]
  refine V.as1 g0 d_X6_dropOldest_6 ?_
  refine V.iconst g0 d_X6_dropOldest_7 ?_
  refine V.is2 g0 d_X6_dropOldest_8 ?_
  have LP : ∀ (f i : Nat), i + f = 4 → 1 ≤ i → V E X 0 0 n (va_up M (o + 187) (ra E 3 4 (hrF (shA ad (i - 1))))) 9 [some (.ref o), some (.ref (ad 0)), some (.int (iI (i : Int)))] [] := by
    intro f
    induction f using Nat.strongRecOn with
    | _ f ih =>
    intro i hf hi1
    refine V.il2 g0 d_X6_dropOldest_9 ?_
    refine V.iconst g0 d_X6_dropOldest_10 ?_
    refine V.icmpge g0 d_X6_dropOldest_11 (by omega) (fun c_11 => ?_) (fun c_11 => ?_)
    · skip
      have ei : i = 4 := by omega
      subst ei
      refine V.al0 g0 d_X6_dropOldest_34 ?_
      refine V.getf g0 d_X6_dropOldest_35 fl_X6_22 (by first | exact hm0 _ | exact up_s) (by rfl) ?_
      refine V.iconst g0 d_X6_dropOldest_38 ?_
      refine V.al1 g0 d_X6_dropOldest_39 ?_
      refine V.aast g0 d_X6_dropOldest_40 up_s rfl ((va_up_ne _ _ (hu 0 (by omega) (by omega)).2).trans (hu 0 (by omega) (by omega)).1.choose_spec) rfl (by omega) (by decide) ?_
      refine V.eqM (show _ = va_up M (o + 187) (ra E 3 4 (hrF (rotA ad))) by rw [up_up, hrF_up]; rfl) ?_
      refine V.al0 g0 d_X6_dropOldest_41 ?_
      refine V.dup g0 d_X6_dropOldest_42 rfl ?_
      refine V.getf g0 d_X6_dropOldest_43 fl_X6_96 (by first | exact hm0 _ | exact up_s) (by rfl) ?_
      refine V.iconst g0 d_X6_dropOldest_46 ?_
      refine V.isub g0 d_X6_dropOldest_47 ?_
      refine V.putf g0 d_X6_dropOldest_48 fp_X6_96 (by first | exact hm0 _ | exact up_s) (Nat.le_of_ble_eq_true rfl) rfl rfl ?_
      skip
      refine V.vret g d_X6_dropOldest_51 (Nat.zero_le _) (Nat.zero_le _) ?_
      exact ⟨rfl, rfl, rfl⟩
    · skip
      refine V.al0 g0 d_X6_dropOldest_14 ?_
      refine V.getf g0 d_X6_dropOldest_15 fl_X6_22 (by first | exact hm0 _ | exact up_s) (by rfl) ?_
      refine V.il2 g0 d_X6_dropOldest_18 ?_
      refine V.iconst g0 d_X6_dropOldest_19 ?_
      refine V.isub g0 d_X6_dropOldest_20 ?_
      refine V.al0 g0 d_X6_dropOldest_21 ?_
      refine V.getf g0 d_X6_dropOldest_22 fl_X6_22 (by first | exact hm0 _ | exact up_s) (by rfl) ?_
      refine V.il2 g0 d_X6_dropOldest_25 ?_
      refine V.aald g0 d_X6_dropOldest_26 up_s rfl (by omega) (by decide) ?_
      rw [show hrF (shA ad (i - 1)) (i : Int) = some (ad i) from congrArg some (shA_at (by omega)), show va_rf (some (ad (i : Int))) = Value.ref (ad i) from rfl]
      refine V.aast g0 d_X6_dropOldest_27 up_s rfl ((va_up_ne _ _ (hu i (by omega) (by omega)).2).trans (hu i (by omega) (by omega)).1.choose_spec) rfl (by omega) (by decide) ?_
      refine V.eqM (show _ = va_up M (o + 187) (ra E 3 4 (hrF (shA ad i))) by rw [up_up, hrF_up, shA_s hi1]) ?_
      refine V.inc2 g0 d_X6_dropOldest_28 ?_
      refine V.goto g0 d_X6_dropOldest_31 ?_
      exact ih (f - 1) (by omega) (i + 1) (by omega) (by omega)
  exact LP 3 1 (by omega) (by omega)

theorem d_X6_recorded_0 : Dc cX6_recorded 0 1 1 (.iload_n 1) := ⟨by decide +kernel, rfl⟩
theorem d_X6_recorded_1 : Dj cX6_recorded 1 4 6 (.ifCond .ge) := ⟨5, by decide +kernel, rfl, by decide⟩
theorem d_X6_recorded_4 : Dc cX6_recorded 4 1 5 (.iload_n 1) := ⟨by decide +kernel, rfl⟩
theorem d_X6_recorded_5 : decode cX6_recorded 5 = .ok (.ireturn, 1) := by decide +kernel
theorem d_X6_recorded_6 : Dc cX6_recorded 6 1 7 (.aload_n 0) := ⟨by decide +kernel, rfl⟩
theorem d_X6_recorded_7 : Dc cX6_recorded 7 3 10 (.getfield 96) := ⟨by decide +kernel, rfl⟩
theorem d_X6_recorded_10 : Dc cX6_recorded 10 1 11 (.iconst 4) := ⟨by decide +kernel, rfl⟩
theorem d_X6_recorded_11 : Dj cX6_recorded 11 14 18 (.if_icmp .ne) := ⟨7, by decide +kernel, rfl, by decide⟩
theorem d_X6_recorded_14 : Dc cX6_recorded 14 1 15 (.aload_n 0) := ⟨by decide +kernel, rfl⟩
theorem d_X6_recorded_15 : Dc cX6_recorded 15 3 18 (.invokevirtual 259) := ⟨by decide +kernel, rfl⟩
theorem d_X6_recorded_18 : Dc cX6_recorded 18 1 19 (.aload_n 0) := ⟨by decide +kernel, rfl⟩
theorem d_X6_recorded_19 : Dc cX6_recorded 19 3 22 (.getfield 22) := ⟨by decide +kernel, rfl⟩
theorem d_X6_recorded_22 : Dc cX6_recorded 22 1 23 (.aload_n 0) := ⟨by decide +kernel, rfl⟩
theorem d_X6_recorded_23 : Dc cX6_recorded 23 3 26 (.getfield 96) := ⟨by decide +kernel, rfl⟩
theorem d_X6_recorded_26 : Dc cX6_recorded 26 1 27 .aaload := ⟨by decide +kernel, rfl⟩
theorem d_X6_recorded_27 : Dc cX6_recorded 27 1 28 (.astore_n 2) := ⟨by decide +kernel, rfl⟩
theorem d_X6_recorded_28 : Dc cX6_recorded 28 1 29 (.aload_n 0) := ⟨by decide +kernel, rfl⟩
theorem d_X6_recorded_29 : Dc cX6_recorded 29 3 32 (.getfield 22) := ⟨by decide +kernel, rfl⟩
theorem d_X6_recorded_32 : Dc cX6_recorded 32 1 33 (.aload_n 0) := ⟨by decide +kernel, rfl⟩
theorem d_X6_recorded_33 : Dc cX6_recorded 33 3 36 (.getfield 96) := ⟨by decide +kernel, rfl⟩
theorem d_X6_recorded_36 : Dc cX6_recorded 36 1 37 (.aload_n 0) := ⟨by decide +kernel, rfl⟩
theorem d_X6_recorded_37 : Dc cX6_recorded 37 3 40 (.getfield 16) := ⟨by decide +kernel, rfl⟩
theorem d_X6_recorded_40 : Dc cX6_recorded 40 1 41 .aastore := ⟨by decide +kernel, rfl⟩
theorem d_X6_recorded_41 : Dc cX6_recorded 41 1 42 (.aload_n 0) := ⟨by decide +kernel, rfl⟩
theorem d_X6_recorded_42 : Dc cX6_recorded 42 1 43 (.aload_n 2) := ⟨by decide +kernel, rfl⟩
theorem d_X6_recorded_43 : Dc cX6_recorded 43 3 46 (.putfield 16) := ⟨by decide +kernel, rfl⟩
theorem d_X6_recorded_46 : Dc cX6_recorded 46 1 47 (.aload_n 0) := ⟨by decide +kernel, rfl⟩
theorem d_X6_recorded_47 : Dc cX6_recorded 47 1 48 .dup := ⟨by decide +kernel, rfl⟩
theorem d_X6_recorded_48 : Dc cX6_recorded 48 3 51 (.getfield 96) := ⟨by decide +kernel, rfl⟩
theorem d_X6_recorded_51 : Dc cX6_recorded 51 1 52 (.iconst 1) := ⟨by decide +kernel, rfl⟩
theorem d_X6_recorded_52 : Dc cX6_recorded 52 1 53 .iadd := ⟨by decide +kernel, rfl⟩
theorem d_X6_recorded_53 : Dc cX6_recorded 53 3 56 (.putfield 96) := ⟨by decide +kernel, rfl⟩
theorem d_X6_recorded_56 : Dc cX6_recorded 56 1 57 (.iload_n 1) := ⟨by decide +kernel, rfl⟩
theorem d_X6_recorded_57 : decode cX6_recorded 57 = .ok (.ireturn, 1) := by decide +kernel
set_option maxHeartbeats 4000000 in
set_option maxRecDepth 20000 in
theorem c_X6_recorded {E : Ev} {n : Nat} {M : Mem} {w o : Nat} {A : AS} {s : Int → Int} (hX : XP E M w n o A s A.1) {z : Int} (h1 : rg z) (hz : z < 0 → s = A.1) : MT E yX6_recorded cX6_recorded 3 (some .int) 1 0 0 [.ref o, .int (iI z)] n M ((fun v n' M' => v = some (.int (iI z)) ∧ n' = n ∧ XR E M' w n o (actA A (z, s)).2 ∧ ∀ q, (q < o ∨ o + 438 ≤ q) → M' q = M q)) := by
  refine MT.of (by decide) rfl (Nat.le_of_ble_eq_true rfl) ?_
  intro X g
  have g0 := g.1
  show V E X 0 0 n M 0 [some (.ref o), some (.int (iI z)), none] []
  obtain ⟨ad, b, cn, ce, th, nx, ki, pa, co, fo, fr, un, da, hA, hB, hD⟩ := id hX
  obtain ⟨h0, h187, hx4, hT, hkn, hkp, hst, how, hrg⟩ := id hD
  have T : ∀ (ad1 : Int → Nat) (k : Int) (H1 : Int → Int → Int) (M1 : Mem), 0 ≤ z → 0 ≤ k ∧ k < 4 → XA o ad1 b → XB E M1 w n o s A.1 H1 k A.2.2.2.1 A.2.2.2.2.1 ad1 b → XD E M1 w n o k A.2.2.2.2.1 A.2.2.2.2.2.1 A.2.2.2.2.2.2.1 A.2.2.2.2.2.2.2.1 A.2.2.2.2.2.2.2.2 ad1 b cn ce th nx ki pa co fo fr un da → (∀ q, q ≠ o → q ≠ o + 187 → M1 q = M q) → (∀ i : Int, 0 ≤ i → i < k + 1 → (if i = k then A.1 else H1 i) = recH A.2.1 A.1 A.2.2.1 i) → k + 1 = recK A.2.2.1 → V E X 0 0 n M1 18 [some (.ref o), some (.int (iI z)), none] [] := by
    intro ad1 k H1 M1 hz0 hk hA1 hB1 hD1 hf1 hr1 hk1
    have hu : ∀ x, va_up M1 (o + 187) x b = M1 b := fun x => va_up_ne _ _ (by have := hA1.2.1.inn; omega)
    refine V.al0 g0 d_X6_recorded_18 ?_
    refine V.getf g0 d_X6_recorded_19 fl_X6_22 hD1.1 (by rfl) ?_
    refine V.al0 g0 d_X6_recorded_22 ?_
    refine V.getf g0 d_X6_recorded_23 fl_X6_96 hD1.1 (by rfl) ?_
    refine V.aald g0 d_X6_recorded_26 hD1.2.1 rfl (by omega) (by decide) ?_
    rw [show hrF ad1 k = some (ad1 k) from rfl, show va_rf (some (ad1 k)) = Value.ref (ad1 k) from rfl]
    refine V.as2 g0 d_X6_recorded_27 ?_
    refine V.al0 g0 d_X6_recorded_28 ?_
    refine V.getf g0 d_X6_recorded_29 fl_X6_22 hD1.1 (by rfl) ?_
    refine V.al0 g0 d_X6_recorded_32 ?_
    refine V.getf g0 d_X6_recorded_33 fl_X6_96 hD1.1 (by rfl) ?_
    refine V.al0 g0 d_X6_recorded_36 ?_
    refine V.getf g0 d_X6_recorded_37 fl_X6_16 hD1.1 (by rfl) ?_
    refine V.aast g0 d_X6_recorded_40 hD1.2.1 rfl hB1.2.1.h0.choose_spec rfl (by omega) (by decide) ?_
    rw [hrF_up]
    refine V.al0 g0 d_X6_recorded_41 ?_
    refine V.al2 g0 d_X6_recorded_42 ?_
    refine V.putf g0 d_X6_recorded_43 fp_X6_16 ((va_up_ne _ _ (by omega)).trans hD1.1) (Nat.le_of_ble_eq_true rfl) rfl rfl ?_
    refine V.eqM (show _ = va_up (va_up M1 (o + 187) (ra E 3 4 (hrF (upA ad1 k b)))) o (XO o k (ad1 k) A.2.2.2.2.1 cn ce) from rfl) ?_
    refine V.al0 g0 d_X6_recorded_46 ?_
    refine V.dup g0 d_X6_recorded_47 rfl ?_
    refine V.getf g0 d_X6_recorded_48 fl_X6_96 up_s (by rfl) ?_
    refine V.iconst g0 d_X6_recorded_51 ?_
    refine V.iadd g0 d_X6_recorded_52 ?_
    refine V.putf g0 d_X6_recorded_53 fp_X6_96 up_s (Nat.le_of_ble_eq_true rfl) rfl rfl ?_
    refine V.eqM (show _ = va_up (va_up M1 (o + 187) (ra E 3 4 (hrF (upA ad1 k b)))) o (XO o (k + 1) (ad1 k) A.2.2.2.2.1 cn ce) by rw [up_up]; rfl) ?_
    refine V.il1 g0 d_X6_recorded_56 ?_
    refine V.iret g d_X6_recorded_57 (Nat.zero_le _) (Nat.zero_le _) ?_
    refine ⟨rfl, rfl, ?_, fun q hq => (va_up_ne _ _ (by omega)).trans ((va_up_ne _ _ (by omega)).trans (hf1 q (by omega) (by omega)))⟩
    rw [actA_p (by omega)]
    exact rec_end hk hA1 hB1 hD1 hr1 hk1 up_s ((va_up_ne _ _ (by omega)).trans up_s) (fun q g1 g2 => (va_up_ne _ _ g1).trans (va_up_ne _ _ g2))
  refine V.il1 g0 d_X6_recorded_0 ?_
  refine V.ifge g0 d_X6_recorded_1 (by omega) (fun c_1 => ?_) (fun c_1 => ?_)
  · skip
    refine V.al0 g0 d_X6_recorded_6 ?_
    refine V.getf g0 d_X6_recorded_7 fl_X6_96 h0 (by rfl) ?_
    refine V.iconst g0 d_X6_recorded_10 ?_
    refine V.icmpne g0 d_X6_recorded_11 (by omega) (fun c_11 => ?_) (fun c_11 => ?_)
    · skip
      exact T ad A.2.2.1 A.2.1 M (by omega) (by omega) hA hB hD (fun _ _ _ => rfl) (fun i g1 g2 => by rw [recH, if_neg c_11]) (by rw [recK, if_neg c_11])
    · skip
      refine V.al0 g0 d_X6_recorded_14 ?_
      refine V.callVf g0 (c_X6_dropOldest (c_11 ▸ h0) h187 (fun i g1 g2 => ⟨(hB.2.2.2 i g1 g2).choose_spec.1.h0, by have := (hA.1 i g1 g2).inn; omega⟩)) ky_X6_dropOldest ki_X6_dropOldest ks2_X6_dropOldest lk_X6_259 h0 rfl rfl (Nat.le_of_ble_eq_true rfl) ⟨Nat.zero_le _, Nat.zero_le _⟩ rfl rfl (Nat.le_of_ble_eq_true rfl) d_X6_recorded_15 ?_
      rw [c_11] at hB
      have hA2 := hA.rot
      have hB2 := (hB.frm hA how (Nat.le_refl _) (M' := va_up (va_up M (o + 187) (ra E 3 4 (hrF (rotA ad)))) o (XO o 3 b A.2.2.2.2.1 cn ce)) (fun q hq => (va_up_ne _ _ (by omega)).trans (va_up_ne _ _ (by omega)))).rot
      exact T (rotA ad) 3 (fun i => if i < 3 then A.2.1 (i + 1) else A.2.1 i) _ (by omega) (by omega) hA2 hB2 ⟨up_s, (va_up_ne _ _ (by omega)).trans up_s, Bk.fr hx4 (fun q g1 g2 => (va_up_ne _ _ (by omega)).trans (va_up_ne _ _ (by omega))), hT, by omega, hkp, hst, how, hrg⟩ (fun q g1 g2 => (va_up_ne _ _ g1).trans (va_up_ne _ _ g2)) (fun i g1 g2 => by
        rw [recH, if_pos c_11]
        by_cases g3 : i = 3
        · show (if i = 3 then A.1 else _) = (if i = 3 then A.1 else _)
          rw [if_pos g3, if_pos g3]
        · show (if i = 3 then A.1 else if i < 3 then A.2.1 (i + 1) else A.2.1 i) = (if i = 3 then A.1 else A.2.1 (i + 1))
          rw [if_neg g3, if_neg g3, if_pos (by omega)]) (by rw [recK, if_pos c_11]; rfl)
  · skip
    refine V.il1 g0 d_X6_recorded_4 ?_
    refine V.iret g d_X6_recorded_5 (Nat.zero_le _) (Nat.zero_le _) ?_
    refine ⟨rfl, rfl, ?_, fun _ _ => rfl⟩
    rw [actA_n (by omega)]
    exact ⟨A.1, hz (by omega) ▸ hX⟩
