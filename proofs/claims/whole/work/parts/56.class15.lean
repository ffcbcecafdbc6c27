theorem SR.h0 {E : Ev} {M : Mem} {w n t : Nat} {s : Int → Int} (h : SR E M w n t s) : ∃ fs, M t = .inr (2, fs) := by
  obtain ⟨C, hM, -⟩ := h
  exact ⟨_, hM.h0⟩
theorem d_X2_endDays_0 : Dc cX2_endDays 0 1 1 (.iload_n 1) := ⟨by decide +kernel, rfl⟩
theorem d_X2_endDays_1 : Dc cX2_endDays 1 1 2 (.iconst 1) := ⟨by decide +kernel, rfl⟩
theorem d_X2_endDays_2 : Dc cX2_endDays 2 2 4 (.bipush 99) := ⟨by decide +kernel, rfl⟩
theorem d_X2_endDays_4 : Dc cX2_endDays 4 3 7 (.invokestatic 36) := ⟨by decide +kernel, rfl⟩
theorem d_X2_endDays_7 : Dj cX2_endDays 7 10 13 (.ifCond .ne) := ⟨6, by decide +kernel, rfl, by decide⟩
theorem d_X2_endDays_10 : Dc cX2_endDays 10 2 12 (.bipush (-2)) := ⟨by decide +kernel, rfl⟩
theorem d_X2_endDays_12 : decode cX2_endDays 12 = .ok (.ireturn, 1) := by decide +kernel
theorem d_X2_endDays_13 : Dc cX2_endDays 13 1 14 (.aload_n 0) := ⟨by decide +kernel, rfl⟩
theorem d_X2_endDays_14 : Dc cX2_endDays 14 3 17 (.getfield 18) := ⟨by decide +kernel, rfl⟩
theorem d_X2_endDays_17 : Dc cX2_endDays 17 1 18 (.iload_n 1) := ⟨by decide +kernel, rfl⟩
theorem d_X2_endDays_18 : Dc cX2_endDays 18 1 19 .iadd := ⟨by decide +kernel, rfl⟩
theorem d_X2_endDays_19 : Dc cX2_endDays 19 3 22 (.sipush 999) := ⟨by decide +kernel, rfl⟩
theorem d_X2_endDays_22 : Dj cX2_endDays 22 25 28 (.if_icmp .le) := ⟨6, by decide +kernel, rfl, by decide⟩
theorem d_X2_endDays_25 : Dc cX2_endDays 25 2 27 (.bipush (-3)) := ⟨by decide +kernel, rfl⟩
theorem d_X2_endDays_27 : decode cX2_endDays 27 = .ok (.ireturn, 1) := by decide +kernel
theorem d_X2_endDays_28 : Dc cX2_endDays 28 1 29 (.iconst 0) := ⟨by decide +kernel, rfl⟩
theorem d_X2_endDays_29 : Dc cX2_endDays 29 1 30 (.istore_n 2) := ⟨by decide +kernel, rfl⟩
theorem d_X2_endDays_30 : Dc cX2_endDays 30 1 31 (.iconst 0) := ⟨by decide +kernel, rfl⟩
theorem d_X2_endDays_31 : Dc cX2_endDays 31 1 32 (.istore_n 3) := ⟨by decide +kernel, rfl⟩
theorem d_X2_endDays_32 : Dc cX2_endDays 32 1 33 (.iload_n 3) := ⟨by decide +kernel, rfl⟩
theorem d_X2_endDays_33 : Dc cX2_endDays 33 1 34 (.iload_n 1) := ⟨by decide +kernel, rfl⟩
theorem d_X2_endDays_34 : Dj cX2_endDays 34 37 50 (.if_icmp .ge) := ⟨16, by decide +kernel, rfl, by decide⟩
theorem d_X2_endDays_37 : Dc cX2_endDays 37 1 38 (.iload_n 2) := ⟨by decide +kernel, rfl⟩
theorem d_X2_endDays_38 : Dc cX2_endDays 38 1 39 (.aload_n 0) := ⟨by decide +kernel, rfl⟩
theorem d_X2_endDays_39 : Dc cX2_endDays 39 3 42 (.invokevirtual 130) := ⟨by decide +kernel, rfl⟩
theorem d_X2_endDays_42 : Dc cX2_endDays 42 1 43 .iadd := ⟨by decide +kernel, rfl⟩
theorem d_X2_endDays_43 : Dc cX2_endDays 43 1 44 (.istore_n 2) := ⟨by decide +kernel, rfl⟩
theorem d_X2_endDays_44 : Dc cX2_endDays 44 3 47 (.iinc 3 1) := ⟨by decide +kernel, rfl⟩
theorem d_X2_endDays_47 : Dj cX2_endDays 47 50 32 .goto := ⟨(-15), by decide +kernel, rfl, by decide⟩
theorem d_X2_endDays_50 : Dc cX2_endDays 50 1 51 (.iload_n 2) := ⟨by decide +kernel, rfl⟩
theorem d_X2_endDays_51 : decode cX2_endDays 51 = .ok (.ireturn, 1) := by decide +kernel
set_option maxHeartbeats 4000000 in
set_option maxRecDepth 20000 in
theorem c_X2_endDays {E : Ev} {n : Nat} {M : Mem} {w t : Nat} {s : Int → Int} (hS : SR E M w n t s) (ht : t + 62 ≤ w) {d : Int} (h1 : rg d) : MT E yX2_endDays cX2_endDays 4 (some .int) 5 0 0 [.ref t, .int (iI d)] n M ((RS E M w n t (g_pass s d))) := by
  refine MT.of (by decide) rfl (Nat.le_of_ble_eq_true rfl) ?_
  intro X g
  have g0 := g.1
  show V E X 0 0 n M 0 [some (.ref t), some (.int (iI d)), none, none] []
  obtain ⟨C, hM, hR, hv, hO⟩ := id hS
  have hdy := hO.day
  have hm := hO.many
  have h0 := hM.h0
  refine V.il1 g0 d_X2_endDays_0 ?_
  refine V.iconst g0 d_X2_endDays_1 ?_
  refine V.bipush g0 d_X2_endDays_2 (by decide) ?_
  refine V.callSNp g0 (c_X6_isWithin h1 (by decide) (by decide)) ky_X6_isWithin ks_X6_isWithin lk_X2_36 (Nat.le_of_ble_eq_true rfl) ⟨Nat.zero_le _, Nat.zero_le _⟩ rfl rfl (Nat.le_of_ble_eq_true rfl) d_X2_endDays_4 ?_
  refine V.ifneB g0 d_X2_endDays_7 (fun c_7 => ?_) (fun c_7 => ?_)
  · skip
    refine V.al0 g0 d_X2_endDays_13 ?_
    refine V.getf g0 d_X2_endDays_14 fl_X2_18 h0 (by rfl) ?_
    refine V.il1 g0 d_X2_endDays_17 ?_
    refine V.iadd g0 d_X2_endDays_18 ?_
    refine V.sipush g0 d_X2_endDays_19 (by decide) ?_
    refine V.icmple g0 d_X2_endDays_22 (by omega) (fun c_22 => ?_) (fun c_22 => ?_)
    · skip
      have e : errPass s d = 0 := (if_neg (fun q => q c_7)).trans (if_neg (by omega))
      refine V.iconst g0 d_X2_endDays_28 ?_
      refine V.is2 g0 d_X2_endDays_29 ?_
      refine V.iconst g0 d_X2_endDays_30 ?_
      refine V.is3 g0 d_X2_endDays_31 ?_
      have LP : ∀ (f i : Nat) (z : Int) (n1 : Nat) (M1 : Mem), i + f = d.toNat → z = daysN s i → n ≤ n1 → SR E M1 w n1 t (daysS s i) → (∀ q, (q < t ∨ t + 62 ≤ q) → q < n → M1 q = M q) → V E X 0 0 n1 M1 32 [some (.ref t), some (.int (iI d)), some (.int (iI z)), some (.int (iI (i : Int)))] [] := by
        intro f
        induction f using Nat.strongRecOn with
        | _ f ih =>
        intro i z n1 M1 hf hz hn1 hS1 hfr
        refine V.il3 g0 d_X2_endDays_32 ?_
        refine V.il1 g0 d_X2_endDays_33 ?_
        refine V.icmpge g0 d_X2_endDays_34 (by omega) (fun c_34 => ?_) (fun c_34 => ?_)
        · skip
          refine V.il2 g0 d_X2_endDays_50 ?_
          refine V.iret g d_X2_endDays_51 (Nat.zero_le _) (Nat.zero_le _) ?_
          have ei : i = d.toNat := by omega
          rw [show g_pass s d = (daysN s d.toNat, daysS s d.toNat) by rw [g_pass, if_neg (by omega)], ← ei, hz]; exact ⟨rfl, hn1, hS1, hfr⟩
        · skip
          refine V.il2 g0 d_X2_endDays_37 ?_
          refine V.al0 g0 d_X2_endDays_38 ?_
          refine V.callV g0 (r_endDay hS1 ht (by have := (hO.daysS i (by omega)).2.1; omega)) ky_X2_endDay ki_X2_endDay ks2_X2_endDay lk_X2_130 hS1.h0.choose_spec rfl rfl (Nat.le_of_ble_eq_true rfl) ⟨Nat.zero_le _, Nat.zero_le _⟩ rfl rfl (Nat.le_of_ble_eq_true rfl) d_X2_endDays_39 (fun v_39 n_39 M_39 h_39 => ?_)
          obtain ⟨rfl, hn2, hS2, hf2⟩ := h_39
          refine V.iadd g0 d_X2_endDays_42 ?_
          refine V.is2 g0 d_X2_endDays_43 ?_
          refine V.inc3 g0 d_X2_endDays_44 ?_
          refine V.goto g0 d_X2_endDays_47 ?_
          exact ih (f - 1) (by omega) (i + 1) _ _ _ (by omega) (by rw [hz]; rfl) (by omega) hS2 (fun q a b => (hf2 q a (by omega)).trans (hfr q a b))
      exact LP d.toNat 0 0 n M (by omega) rfl (Nat.le_refl _) hS (fun _ _ _ => rfl)
    · skip
      refine V.bipush g0 d_X2_endDays_25 (by decide) ?_
      refine V.iret g d_X2_endDays_27 (Nat.zero_le _) (Nat.zero_le _) ?_
      have e : errPass s d = -3 := (if_neg (fun q => q c_7)).trans (if_pos (by omega))
      rw [show g_pass s d = (-3, s) by rw [g_pass, if_pos (by omega), e]]; exact RS.same hS
  · skip
    refine V.bipush g0 d_X2_endDays_10 (by decide) ?_
    refine V.iret g d_X2_endDays_12 (Nat.zero_le _) (Nat.zero_le _) ?_
    have e : errPass s d = -2 := if_pos c_7
    rw [show g_pass s d = (-2, s) by rw [g_pass, if_pos (by omega), e]]; exact RS.same hS
set_option maxHeartbeats 4000000 in
set_option maxRecDepth 20000 in
theorem c_X3_appendN {E : Ev} {n : Nat} {M : Mem} {m : Nat} {tx : Int → Int} {ln th nx ki pa co fo fr un da : Int} (ht : txB tx ln) {c : Int} (hc : 0 ≤ c ∧ c < 65536) : MT E yX3_append cX3_append 2 (some .int) 0 0 0 [.ref m, .int (iI c)] n (xtU E M m tx ln th nx ki pa co fo fr un da) ((PF (some (.int (iI (if ln = 60 then -3 else ln + 1)))) n (if ln = 60 then xtU E M m tx ln th nx ki pa co fo fr un da else xtU E M m (upI tx ln c) (ln + 1) th nx ki pa co fo fr un da))) := by
  refine MT.of (by decide) rfl (Nat.le_of_ble_eq_true rfl) ?_
  intro X g
  have g0 := g.1
  show V E X 0 0 n (xtU E M m tx ln th nx ki pa co fo fr un da) 0 [some (.ref m), some (.int (iI c))] []
  have htx := ht.2
  have hl := ht.1
  refine V.al0 g0 d_X3_append_0 ?_
  refine V.getf g0 d_X3_append_1 fl_X3_15 (by first | exact xt_0 | exact xt_1) (by rfl) ?_
  refine V.bipush g0 d_X3_append_4 (by decide) ?_
  refine V.icmplt g0 d_X3_append_6 (by omega) (fun c_6 => ?_) (fun c_6 => ?_)
  · skip
    refine V.al0 g0 d_X3_append_12 ?_
    refine V.getf g0 d_X3_append_13 fl_X3_9 (by first | exact xt_0 | exact xt_1) (by rfl) ?_
    refine V.al0 g0 d_X3_append_16 ?_
    refine V.getf g0 d_X3_append_17 fl_X3_15 (by first | exact xt_0 | exact xt_1) (by rfl) ?_
    refine V.il1 g0 d_X3_append_20 ?_
    refine V.cast g0 d_X3_append_21 (by first | exact xt_0 | exact xt_1) (by omega) (by decide) (by omega) ?_
    first | refine V.eqM xt_u0 ?_ | refine V.eqM xt_u1 ?_
    refine V.al0 g0 d_X3_append_22 ?_
    refine V.dup g0 d_X3_append_23 rfl ?_
    refine V.getf g0 d_X3_append_24 fl_X3_15 (by first | exact xt_0 | exact xt_1) (by rfl) ?_
    refine V.iconst g0 d_X3_append_27 ?_
    refine V.iadd g0 d_X3_append_28 ?_
    refine V.putf g0 d_X3_append_29 fp_X3_15 (by first | exact xt_0 | exact xt_1) (Nat.le_of_ble_eq_true rfl) rfl rfl ?_
    first | refine V.eqM xt_u0 ?_ | refine V.eqM xt_u1 ?_
    refine V.al0 g0 d_X3_append_32 ?_
    refine V.getf g0 d_X3_append_33 fl_X3_15 (by first | exact xt_0 | exact xt_1) (by rfl) ?_
    refine V.iret g d_X3_append_36 (Nat.zero_le _) (Nat.zero_le _) ?_
    rw [if_neg (by omega), if_neg (by omega)]; exact ⟨rfl, rfl, rfl⟩
  · skip
    refine V.bipush g0 d_X3_append_9 (by decide) ?_
    refine V.iret g d_X3_append_11 (Nat.zero_le _) (Nat.zero_le _) ?_
    rw [if_pos (by omega), if_pos (by omega)]; exact ⟨rfl, rfl, rfl⟩

set_option maxHeartbeats 4000000 in
set_option maxRecDepth 20000 in
theorem c_X3_emptyN {E : Ev} {n : Nat} {M : Mem} {m : Nat} {tx : Int → Int} {ln th nx ki pa co fo fr un da : Int} (ht : txB tx ln) : MT E yX3_empty cX3_empty 2 (some .int) 0 0 0 [.ref m] n (xtU E M m tx ln th nx ki pa co fo fr un da) ((PF (some (.int (iI (ln)))) n (xtU E M m tx 0 th nx ki pa co fo fr un da))) := by
  refine MT.of (by decide) rfl (Nat.le_of_ble_eq_true rfl) ?_
  intro X g
  have g0 := g.1
  show V E X 0 0 n (xtU E M m tx ln th nx ki pa co fo fr un da) 0 [some (.ref m), none] []
  have htx := ht.2
  have hl := ht.1
  refine V.al0 g0 d_X3_empty_0 ?_
  refine V.getf g0 d_X3_empty_1 fl_X3_15 (by first | exact xt_0 | exact xt_1) (by rfl) ?_
  refine V.is1 g0 d_X3_empty_4 ?_
  refine V.al0 g0 d_X3_empty_5 ?_
  refine V.iconst g0 d_X3_empty_6 ?_
  refine V.putf g0 d_X3_empty_7 fp_X3_15 (by first | exact xt_0 | exact xt_1) (Nat.le_of_ble_eq_true rfl) rfl rfl ?_
  first | refine V.eqM xt_u0 ?_ | refine V.eqM xt_u1 ?_
  refine V.il1 g0 d_X3_empty_10 ?_
  refine V.iret g d_X3_empty_11 (Nat.zero_le _) (Nat.zero_le _) ?_
  exact ⟨rfl, rfl, rfl⟩

set_option maxHeartbeats 4000000 in
set_option maxRecDepth 20000 in
theorem c_X3_goToStartN {E : Ev} {n : Nat} {M : Mem} {m : Nat} {tx : Int → Int} {ln th nx ki pa co fo fr un da : Int} (ht : txB tx ln) : MT E yX3_goToStart cX3_goToStart 1 none 0 0 0 [.ref m] n (xtU E M m tx ln th nx ki pa co fo fr un da) ((PF none n (xtU E M m tx ln th 0 ki pa co fo fr un da))) := by
  refine MT.of (by decide) rfl (Nat.le_of_ble_eq_true rfl) ?_
  intro X g
  have g0 := g.1
  show V E X 0 0 n (xtU E M m tx ln th nx ki pa co fo fr un da) 0 [some (.ref m)] []
  have htx := ht.2
  have hl := ht.1
  refine V.al0 g0 d_X3_goToStart_0 ?_
  refine V.iconst g0 d_X3_goToStart_1 ?_
  refine V.putf g0 d_X3_goToStart_2 fp_X3_19 (by first | exact xt_0 | exact xt_1) (Nat.le_of_ble_eq_true rfl) rfl rfl ?_
  first | refine V.eqM xt_u0 ?_ | refine V.eqM xt_u1 ?_
  refine V.vret g d_X3_goToStart_5 (Nat.zero_le _) (Nat.zero_le _) ?_
  exact ⟨rfl, rfl, rfl⟩

set_option maxHeartbeats 4000000 in
set_option maxRecDepth 20000 in
theorem c_X3_findFaultN {E : Ev} {n : Nat} {M : Mem} {m : Nat} {tx : Int → Int} {ln th nx ki pa co fo fr un da : Int} (ht : txB tx ln) : MT E yX3_findFault cX3_findFault 1 (some .int) 5 0 0 [.ref m] n (xtU E M m tx ln th nx ki pa co fo fr un da) ((fun v n' M' => n' = n ∧ v = some (.int (iI (if (RF tx ln 61 0 0).2.2 = 0 then -1 else (RF tx ln 61 0 0).2.1))) ∧ ∃ th' nx' ki' pa' co' fo' fr' un' da' : Int, M' = xtU E M m tx ln th' nx' ki' pa' co' fo' fr' un' da' ∧ ((RF tx ln 61 0 0).2.2 = 0 → th' = (RF tx ln 61 0 0).1))) := by
  refine MT.of (by decide) rfl (Nat.le_of_ble_eq_true rfl) ?_
  intro X g
  have g0 := g.1
  show V E X 0 0 n (xtU E M m tx ln th nx ki pa co fo fr un da) 0 [some (.ref m)] []
  have htx := ht.2
  have hl := ht.1
  refine V.al0 g0 d_X3_findFault_0 ?_
  refine V.callVf g0 (c_X3_goToStartN ht) ky_X3_goToStart ki_X3_goToStart ks2_X3_goToStart lk_X3_22 (by first | exact xt_0 | exact xt_1) rfl rfl (Nat.le_of_ble_eq_true rfl) ⟨Nat.zero_le _, Nat.zero_le _⟩ rfl rfl (Nat.le_of_ble_eq_true rfl) d_X3_findFault_1 ?_
  refine V.al0 g0 d_X3_findFault_4 ?_
  refine V.iconst g0 d_X3_findFault_5 ?_
  refine V.putf g0 d_X3_findFault_6 fp_X3_25 (by first | exact xt_0 | exact xt_1) (Nat.le_of_ble_eq_true rfl) rfl rfl ?_
  first | refine V.eqM xt_u0 ?_ | refine V.eqM xt_u1 ?_
  have LP : ∀ (f : Nat) (th1 nx1 ki1 pa1 co1 fo1 fr1 un1 da1 : Int), ln - nx1 < f → (0 ≤ nx1 ∧ nx1 ≤ ln) → (1 ≤ th1 ∧ th1 - 1 ≤ nx1 ∧ (nx1 < ln ∨ nx1 = 0)) → ((nx1 = 0 ∧ (RF tx ln 61 0 0) = RF tx ln f 0 (th1 - 1)) ∨ (0 < nx1 ∧ (RF tx ln 61 0 0) = (if tkW tx ln nx1 0 59 59 = 0 then RF tx ln f (tkS tx ln nx1 0 59 59) (th1 - 1) else (th1 - 1, tkS tx ln nx1 0 59 59, 1)))) → V E X 0 0 n (xtU E M m tx ln th1 nx1 ki1 pa1 co1 fo1 fr1 un1 da1) 9 [some (.ref m)] [] := by
    intro f
    induction f using Nat.strongRecOn with
    | _ f ih =>
    intro th1 nx1 ki1 pa1 co1 fo1 fr1 un1 da1 hf hs1 hth hR
    refine V.al0 g0 d_X3_findFault_9 ?_
    refine V.getf g0 d_X3_findFault_10 fl_X3_25 (by first | exact xt_0 | exact xt_1) (by rfl) ?_
    refine V.bipush g0 d_X3_findFault_13 (by decide) ?_
    refine V.icmpgt g0 d_X3_findFault_15 (by omega) (fun c_15 => ?_) (fun c_15 => ?_)
    · skip
      exfalso; omega
    · skip
      refine V.al0 g0 d_X3_findFault_18 ?_
      by_cases hsep : 0 < nx1 ∧ ¬ nxt tx ln nx1 0 59 59
      · refine V.callVf g0 (c_X3_readNext0 ht hs1 hsep) ky_X3_readNext ki_X3_readNext ks2_X3_readNext lk_X3_28 xt_0 rfl rfl (Nat.le_of_ble_eq_true rfl) ⟨Nat.zero_le _, Nat.zero_le _⟩ rfl rfl (Nat.le_of_ble_eq_true rfl) d_X3_findFault_19 ?_
        refine V.ifne g0 d_X3_findFault_22 (by omega) (fun c_22 => ?_) (fun c_22 => ?_)
        · skip
          exfalso; omega
        · skip
          refine V.al0 g0 d_X3_findFault_25 ?_
          refine V.getf g0 d_X3_findFault_26 fl_X3_19 (by first | exact xt_0 | exact xt_1) (by rfl) ?_
          refine V.iret g d_X3_findFault_29 (Nat.zero_le _) (Nat.zero_le _) ?_
          have e : (RF tx ln 61 0 0) = (th1 - 1, nx1 + 0, 1) := by
            rcases hR with q | q
            · omega
            · rw [q.2, (tk_no hsep.2).2.2, (tk_no hsep.2).2.1]; rfl
          rw [e, Int.add_zero]; exact ⟨rfl, rfl, _, _, _, _, _, _, _, _, _, rfl, fun q => absurd (show (1 : Int) = 0 from q) (by decide)⟩
      · obtain ⟨sp, hq, hsp0, hR2⟩ : ∃ sp, nxAt tx ln nx1 sp ∧ (0 ≤ sp ∧ sp ≤ ln ∧ nx1 ≤ sp) ∧ (RF tx ln 61 0 0) = RF tx ln f sp (th1 - 1) := by
          rcases hR with q | q
          · exact ⟨0, Or.inl ⟨q.1, rfl⟩, by omega, q.2⟩
          · have hy : nxt tx ln nx1 0 59 59 := Classical.byContradiction (fun w => hsep ⟨q.1, w⟩)
            have := hy.2.1
            refine ⟨nx1 + 1, Or.inr ⟨q.1, hy, rfl⟩, by omega, ?_⟩
            rw [q.2, (tk_yes hy).2.2.1, (tk_yes hy).2.1, if_pos rfl]
        have rb := rd1_b (f1 := 0) (f2 := 0) (f3 := 0) (f4 := 0) (f5 := 0) ht ⟨hsp0.1, hsp0.2.1⟩
        rw [show rd1 tx ln sp 0 0 0 0 0 = rd0 tx ln sp from rfl] at rb
        refine V.callV g0 (c_X3_readNext1 ht hs1 hq) ky_X3_readNext ki_X3_readNext ks2_X3_readNext lk_X3_28 xt_0 rfl rfl (Nat.le_of_ble_eq_true rfl) ⟨Nat.zero_le _, Nat.zero_le _⟩ rfl rfl (Nat.le_of_ble_eq_true rfl) d_X3_findFault_19 (fun v_19 n_19 M_19 h_19 => ?_)
        obtain ⟨e2, ki', pa', co', fo', fr', un', da', rfl, rfl, hv⟩ := h_19
        replace e2 := e2.symm
        subst e2
        refine V.ifneB g0 d_X3_findFault_22 (fun c_22 => ?_) (fun c_22 => ?_)
        · skip
          refine V.al0 g0 d_X3_findFault_30 ?_
          refine V.getf g0 d_X3_findFault_31 fl_X3_19 (by first | exact xt_0 | exact xt_1) (by rfl) ?_
          refine V.al0 g0 d_X3_findFault_34 ?_
          refine V.getf g0 d_X3_findFault_35 fl_X3_15 (by first | exact xt_0 | exact xt_1) (by rfl) ?_
          refine V.icmpne g0 d_X3_findFault_38 (by omega) (fun c_38 => ?_) (fun c_38 => ?_)
          · skip
            have hpr := (rb.2.2.1 c_22).1
            refine V.al0 g0 d_X3_findFault_43 ?_
            refine V.dup g0 d_X3_findFault_44 rfl ?_
            refine V.getf g0 d_X3_findFault_45 fl_X3_25 (by first | exact xt_0 | exact xt_1) (by rfl) ?_
            refine V.iconst g0 d_X3_findFault_48 ?_
            refine V.iadd g0 d_X3_findFault_49 ?_
            refine V.putf g0 d_X3_findFault_50 fp_X3_25 (by first | exact xt_0 | exact xt_1) (Nat.le_of_ble_eq_true rfl) rfl rfl ?_
            first | refine V.eqM xt_u0 ?_ | refine V.eqM xt_u1 ?_
            refine V.goto g0 d_X3_findFault_53 ?_
            exact ih (f - 1) (by omega) (th1 + 1) _ _ _ _ _ _ _ _ (by omega) rb.1 (by omega) (Or.inr ⟨by omega, by
              rw [hR2, show th1 + 1 - 1 = th1 - 1 + 1 by omega]
              by_cases hsp3 : tkW tx ln (rd0 tx ln sp).1 0 59 59 = 0
              · rw [if_pos hsp3]; exact RF_step (by omega) c_22 (by show (rd0 tx ln sp).1 < ln; omega) hsp3
              · rw [if_neg hsp3, RF_sep (by omega) c_22 (by show (rd0 tx ln sp).1 < ln; omega) hsp3]⟩)
          · skip
            refine V.iconst g0 d_X3_findFault_41 ?_
            refine V.iret g d_X3_findFault_42 (Nat.zero_le _) (Nat.zero_le _) ?_
            have e : (RF tx ln 61 0 0) = (th1 - 1 + 1, (rd0 tx ln sp).1, 0) := hR2.trans (RF_done (by omega) c_22 (by show ¬ (rd0 tx ln sp).1 < ln; omega))
            rw [e]; exact ⟨rfl, rfl, _, _, _, _, _, _, _, _, _, rfl, fun _ => by show th1 = th1 - 1 + 1; omega⟩
        · skip
          refine V.al0 g0 d_X3_findFault_25 ?_
          refine V.getf g0 d_X3_findFault_26 fl_X3_19 (by first | exact xt_0 | exact xt_1) (by rfl) ?_
          refine V.iret g d_X3_findFault_29 (Nat.zero_le _) (Nat.zero_le _) ?_
          have e : (RF tx ln 61 0 0) = (th1 - 1, (rd0 tx ln sp).1, 1) := hR2.trans (RF_end (by omega) c_22)
          rw [e]; exact ⟨rfl, rfl, _, _, _, _, _, _, _, _, _, rfl, fun q => absurd (show (1 : Int) = 0 from q) (by decide)⟩
  exact LP 61 1 0 ki pa co fo fr un da (by omega) (by omega) (by omega) (Or.inl ⟨rfl, rfl⟩)
