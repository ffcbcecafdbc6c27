theorem SR.h0 {E : Ev} {M : Mem} {w n t : Nat} {s : Int → Int} (h : SR E M w n t s) : ∃ fs, M t = .inr (2, fs) := by
  obtain ⟨C, hM, -⟩ := h
  exact ⟨_, hM.h0⟩
theorem d_X2_endDays_0 : Dc cX2_endDays 0 1 1 (.iload_n 1) := ⟨by decide +kernel, rfl⟩
theorem d_X2_endDays_1 : Dc cX2_endDays 1 1 2 (.iconst 1) := ⟨by decide +kernel, rfl⟩
theorem d_X2_endDays_2 : Dc cX2_endDays 2 2 4 (.bipush 99) := ⟨by decide +kernel, rfl⟩
theorem d_X2_endDays_4 : Dc cX2_endDays 4 3 7 (.invokestatic 36) := ⟨by decide +kernel, rfl⟩
theorem d_X2_endDays_7 : Dj cX2_endDays 7 10 13 (.ifCond .ne) := ⟨6, by decide +kernel, rfl, by decide⟩
theorem d_X2_endDays_10 : Dc cX2_endDays 10 2 12 (.bipush (-2)) := ⟨by decide +kernel, rfl⟩
theorem d_X2_endDays_12 : decode cX2_endDays 12 = .ok (.ireturn, 1) := by decide +kernel
theorem d_X2_endDays_13 : Dc cX2_endDays 13 1 14 (.aload_n 0) := ⟨by decide +kernel, rfl⟩
theorem d_X2_endDays_14 : Dc cX2_endDays 14 3 17 (.getfield 18) := ⟨by decide +kernel, rfl⟩
theorem d_X2_endDays_17 : Dc cX2_endDays 17 1 18 (.iload_n 1) := ⟨by decide +kernel, rfl⟩
theorem d_X2_endDays_18 : Dc cX2_endDays 18 1 19 .iadd := ⟨by decide +kernel, rfl⟩
theorem d_X2_endDays_19 : Dc cX2_endDays 19 3 22 (.sipush 999) := ⟨by decide +kernel, rfl⟩
theorem d_X2_endDays_22 : Dj cX2_endDays 22 25 28 (.if_icmp .le) := ⟨6, by decide +kernel, rfl, by decide⟩
theorem d_X2_endDays_25 : Dc cX2_endDays 25 2 27 (.bipush (-3)) := ⟨by decide +kernel, rfl⟩
theorem d_X2_endDays_27 : decode cX2_endDays 27 = .ok (.ireturn, 1) := by decide +kernel
theorem d_X2_endDays_28 : Dc cX2_endDays 28 1 29 (.iconst 0) := ⟨by decide +kernel, rfl⟩
theorem d_X2_endDays_29 : Dc cX2_endDays 29 1 30 (.istore_n 2) := ⟨by decide +kernel, rfl⟩
theorem d_X2_endDays_30 : Dc cX2_endDays 30 1 31 (.iconst 0) := ⟨by decide +kernel, rfl⟩
theorem d_X2_endDays_31 : Dc cX2_endDays 31 1 32 (.istore_n 3) := ⟨by decide +kernel, rfl⟩
theorem d_X2_endDays_32 : Dc cX2_endDays 32 1 33 (.iload_n 3) := ⟨by decide +kernel, rfl⟩
theorem d_X2_endDays_33 : Dc cX2_endDays 33 1 34 (.iload_n 1) := ⟨by decide +kernel, rfl⟩
theorem d_X2_endDays_34 : Dj cX2_endDays 34 37 50 (.if_icmp .ge) := ⟨16, by decide +kernel, rfl, by decide⟩
theorem d_X2_endDays_37 : Dc cX2_endDays 37 1 38 (.iload_n 2) := ⟨by decide +kernel, rfl⟩
theorem d_X2_endDays_38 : Dc cX2_endDays 38 1 39 (.aload_n 0) := ⟨by decide +kernel, rfl⟩
theorem d_X2_endDays_39 : Dc cX2_endDays 39 3 42 (.invokevirtual 130) := ⟨by decide +kernel, rfl⟩
theorem d_X2_endDays_42 : Dc cX2_endDays 42 1 43 .iadd := ⟨by decide +kernel, rfl⟩
theorem d_X2_endDays_43 : Dc cX2_endDays 43 1 44 (.istore_n 2) := ⟨by decide +kernel, rfl⟩
theorem d_X2_endDays_44 : Dc cX2_endDays 44 3 47 (.iinc 3 1) := ⟨by decide +kernel, rfl⟩
theorem d_X2_endDays_47 : Dj cX2_endDays 47 50 32 .goto := ⟨(-15), by decide +kernel, rfl, by decide⟩
theorem d_X2_endDays_50 : Dc cX2_endDays 50 1 51 (.iload_n 2) := ⟨by decide +kernel, rfl⟩
theorem d_X2_endDays_51 : decode cX2_endDays 51 = .ok (.ireturn, 1) := by decide +kernel
set_option maxHeartbeats 4000000 in
set_option maxRecDepth 20000 in
theorem c_X2_endDays {E : Ev} {n : Nat} {M : Mem} {w t : Nat} {s : Int → Int} (hS : SR E M w n t s) (ht : t + 62 ≤ w) {d : Int} (h1 : rg d) : MT E yX2_endDays cX2_endDays 4 (some .int) 5 0 0 [.ref t, .int (iI d)] n M ((RS E M w n t (g_pass s d))) := by
  refine MT.of (by decide) rfl (Nat.le_of_ble_eq_true rfl) ?_
  intro X g
  have g0 := g.1
  show V E X 0 0 n M 0 [some (.ref t), some (.int (iI d)), none, none] []
  obtain ⟨C, hM, hR, hv, hO⟩ := id hS
  have hdy := hO.day
  have hm := hO.many
  have h0 := hM.h0
  refine V.il1 g0 d_X2_endDays_0 ?_
  refine V.iconst g0 d_X2_endDays_1 ?_
  refine V.bipush g0 d_X2_endDays_2 (by decide) ?_
  refine V.callSNp g0 (c_X6_isWithin h1 (by decide) (by decide)) ky_X6_isWithin ks_X6_isWithin lk_X2_36 (Nat.le_of_ble_eq_true rfl) ⟨Nat.zero_le _, Nat.zero_le _⟩ rfl rfl (Nat.le_of_ble_eq_true rfl) d_X2_endDays_4 ?_
  refine V.ifneB g0 d_X2_endDays_7 (fun c_7 => ?_) (fun c_7 => ?_)
  · skip
    refine V.al0 g0 d_X2_endDays_13 ?_
    refine V.getf g0 d_X2_endDays_14 fl_X2_18 h0 (by rfl) ?_
    refine V.il1 g0 d_X2_endDays_17 ?_
    refine V.iadd g0 d_X2_endDays_18 ?_
    refine V.sipush g0 d_X2_endDays_19 (by decide) ?_
    refine V.icmple g0 d_X2_endDays_22 (by omega) (fun c_22 => ?_) (fun c_22 => ?_)
    · skip
      have e : errPass s d = 0 := (if_neg (fun q => q c_7)).trans (if_neg (by omega))
      refine V.iconst g0 d_X2_endDays_28 ?_
      refine V.is2 g0 d_X2_endDays_29 ?_
      refine V.iconst g0 d_X2_endDays_30 ?_
      refine V.is3 g0 d_X2_endDays_31 ?_
      have LP : ∀ (f i : Nat) (z : Int) (n1 : Nat) (M1 : Mem), i + f = d.toNat → z = daysN s i → n ≤ n1 → SR E M1 w n1 t (daysS s i) → (∀ q, (q < t ∨ t + 62 ≤ q) → q < n → M1 q = M q) → V E X 0 0 n1 M1 32 [some (.ref t), some (.int (iI d)), some (.int (iI z)), some (.int (iI (i : Int)))] [] := by
        intro f
        induction f using Nat.strongRecOn with
        | _ f ih =>
        intro i z n1 M1 hf hz hn1 hS1 hfr
        refine V.il3 g0 d_X2_endDays_32 ?_
        refine V.il1 g0 d_X2_endDays_33 ?_
        refine V.icmpge g0 d_X2_endDays_34 (by omega) (fun c_34 => ?_) (fun c_34 => ?_)
        · skip
          refine V.il2 g0 d_X2_endDays_50 ?_
          refine V.iret g d_X2_endDays_51 (Nat.zero_le _) (Nat.zero_le _) ?_
          have ei : i = d.toNat := by omega
          rw [show g_pass s d = (daysN s d.toNat, daysS s d.toNat) by rw [g_pass, if_neg (by omega)], ← ei, hz]; exact ⟨rfl, hn1, hS1, hfr⟩
        · skip
          refine V.il2 g0 d_X2_endDays_37 ?_
          refine V.al0 g0 d_X2_endDays_38 ?_
          refine V.callV g0 (r_endDay hS1 ht (by have := (hO.daysS i (by omega)).2.1; omega)) ky_X2_endDay ki_X2_endDay ks2_X2_endDay lk_X2_130 hS1.h0.choose_spec rfl rfl (Nat.le_of_ble_eq_true rfl) ⟨Nat.zero_le _, Nat.zero_le _⟩ rfl rfl (Nat.le_of_ble_eq_true rfl) d_X2_endDays_39 (fun v_39 n_39 M_39 h_39 => ?_)
          obtain ⟨rfl, hn2, hS2, hf2⟩ := h_39
          refine V.iadd g0 d_X2_endDays_42 ?_
          refine V.is2 g0 d_X2_endDays_43 ?_
          refine V.inc3 g0 d_X2_endDays_44 ?_
          refine V.goto g0 d_X2_endDays_47 ?_
          exact ih (f - 1) (by omega) (i + 1) _ _ _ (by omega) (by rw [hz]; rfl) (by omega) hS2 (fun q a b => (hf2 q a (by omega)).trans (hfr q a b))
      exact LP d.toNat 0 0 n M (by omega) rfl (Nat.le_refl _) hS (fun _ _ _ => rfl)
    · skip
      refine V.bipush g0 d_X2_endDays_25 (by decide) ?_
      refine V.iret g d_X2_endDays_27 (Nat.zero_le _) (Nat.zero_le _) ?_
      have e : errPass s d = -3 := (if_neg (fun q => q c_7)).trans (if_pos (by omega))
      rw [show g_pass s d = (-3, s) by rw [g_pass, if_pos (by omega), e]]; exact RS.same hS
  · skip
    refine V.bipush g0 d_X2_endDays_10 (by decide) ?_
    refine V.iret g d_X2_endDays_12 (Nat.zero_le _) (Nat.zero_le _) ?_
    have e : errPass s d = -2 := if_pos c_7
    rw [show g_pass s d = (-2, s) by rw [g_pass, if_pos (by omega), e]]; exact RS.same hS