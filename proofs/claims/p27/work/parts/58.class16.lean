theorem d_X4_init_0 : Dc cX4_init 0 1 1 (.aload_n 0) := ⟨by decide +kernel, rfl⟩
theorem d_X4_init_1 : Dc cX4_init 1 3 4 (.invokespecial 3) := ⟨by decide +kernel, rfl⟩
theorem d_X4_init_4 : Dc cX4_init 4 1 5 (.iload_n 1) := ⟨by decide +kernel, rfl⟩
theorem d_X4_init_5 : Dc cX4_init 5 1 6 (.iconst 0) := ⟨by decide +kernel, rfl⟩
theorem d_X4_init_6 : Dc cX4_init 6 3 9 (.invokestatic 9) := ⟨by decide +kernel, rfl⟩
theorem d_X4_init_9 : Dc cX4_init 9 1 10 (.iconst 1) := ⟨by decide +kernel, rfl⟩
theorem d_X4_init_10 : Dc cX4_init 10 1 11 .iadd := ⟨by decide +kernel, rfl⟩
theorem d_X4_init_11 : Dc cX4_init 11 1 12 (.istore_n 2) := ⟨by decide +kernel, rfl⟩
theorem d_X4_init_12 : Dc cX4_init 12 1 13 (.aload_n 0) := ⟨by decide +kernel, rfl⟩
theorem d_X4_init_13 : Dc cX4_init 13 1 14 (.iload_n 2) := ⟨by decide +kernel, rfl⟩
theorem d_X4_init_14 : Dc cX4_init 14 2 16 (.newarray .int) := ⟨by decide +kernel, rfl⟩
theorem d_X4_init_16 : Dc cX4_init 16 3 19 (.putfield 15) := ⟨by decide +kernel, rfl⟩
theorem d_X4_init_19 : Dc cX4_init 19 1 20 (.aload_n 0) := ⟨by decide +kernel, rfl⟩
theorem d_X4_init_20 : Dc cX4_init 20 1 21 (.iload_n 2) := ⟨by decide +kernel, rfl⟩
theorem d_X4_init_21 : Dc cX4_init 21 2 23 (.newarray .int) := ⟨by decide +kernel, rfl⟩
theorem d_X4_init_23 : Dc cX4_init 23 3 26 (.putfield 21) := ⟨by decide +kernel, rfl⟩
theorem d_X4_init_26 : decode cX4_init 26 = .ok (.return_, 1) := by decide +kernel
set_option maxHeartbeats 4000000 in
set_option maxRecDepth 20000 in
theorem c_X4_init {E : Ev} {n : Nat} {M : Mem} {m N : Nat} {z : Int} (hn : n = m + 1) (h0 : M m = .inr (4, [.null, .null, .int 0])) (hz : 0 ≤ z ∧ z + 1 = N ∧ N < 100) : MT E yX4_init cX4_init 3 none 1 2 (2 * N) [.ref m, .int (iI z)] n M ((PF none (n + 2) (trU E M m N z0 z0 0))) := by
  refine MT.of (by decide) rfl (Nat.le_of_ble_eq_true rfl) ?_
  intro X g
  have g0 := g.1
  show V E X 0 0 n M 0 [some (.ref m), some (.int (iI z)), none] []
  subst hn
  refine V.eqM (hd_1 (c := trC E m N z0 z0 0) h0) ?_
  refine V.al0 g0 d_X4_init_0 ?_
  refine V.oinit g0 d_X4_init_1 lk_X4_3 oi_inst oi_code (by decide) (Nat.le_of_ble_eq_true rfl) ?_
  refine V.il1 g0 d_X4_init_4 ?_
  refine V.iconst g0 d_X4_init_5 ?_
  refine V.callSp g0 (c_J9_max_7cf53 (by constructor <;> omega) (by decide)) ky_J9_max_7cf53 ks_J9_max_7cf53 lk_X4_9 (Nat.le_of_ble_eq_true rfl) ⟨Nat.zero_le _, Nat.zero_le _⟩ rfl rfl (Nat.le_of_ble_eq_true rfl) d_X4_init_6 ?_
  refine V.iconst g0 d_X4_init_9 ?_
  refine V.iadd g0 d_X4_init_10 ?_
  refine V.is2 g0 d_X4_init_11 ?_
  refine V.al0 g0 d_X4_init_12 ?_
  refine V.il2 g0 d_X4_init_13 ?_
  refine V.newi g0 d_X4_init_14 (show max z 0 + 1 = ((N : Nat) : Int) by omega) (by omega) ac_int (by omega) (by omega) ?_
  refine V.eqM (hd_push (by decide) rfl) ?_
  refine V.putff g rfl rfl d_X4_init_16 fp_X4_15 rfl (by first | exact hd_0 (by omega) | exact hd_0 (by decide)) (Nat.le_of_ble_eq_true rfl) rfl rfl ?_
  refine V.eqM (hd_up (by decide)) ?_
  refine V.al0 g0 d_X4_init_19 ?_
  refine V.il2 g0 d_X4_init_20 ?_
  refine V.newi g0 d_X4_init_21 (show max z 0 + 1 = ((N : Nat) : Int) by omega) (by omega) ac_int (by omega) (by omega) ?_
  refine V.eqM (hd_push (by decide) rfl) ?_
  refine V.putff g rfl rfl d_X4_init_23 fp_X4_21 rfl (by first | exact hd_0 (by omega) | exact hd_0 (by decide)) (Nat.le_of_ble_eq_true rfl) rfl rfl ?_
  refine V.eqM (hd_up (by decide)) ?_
  refine V.vret g d_X4_init_26 (by omega) (by omega) ?_
  exact ⟨rfl, rfl, hd_end rfl⟩

theorem d_X0_init_0 : Dc cX0_init 0 1 1 (.aload_n 0) := ⟨by decide +kernel, rfl⟩
theorem d_X0_init_1 : Dc cX0_init 1 3 4 (.invokespecial 3) := ⟨by decide +kernel, rfl⟩
theorem d_X0_init_4 : Dc cX0_init 4 1 5 (.aload_n 0) := ⟨by decide +kernel, rfl⟩
theorem d_X0_init_5 : Dc cX0_init 5 3 8 (.new 9) := ⟨by decide +kernel, rfl⟩
theorem d_X0_init_8 : Dc cX0_init 8 1 9 .dup := ⟨by decide +kernel, rfl⟩
theorem d_X0_init_9 : Dc cX0_init 9 2 11 (.bipush 16) := ⟨by decide +kernel, rfl⟩
theorem d_X0_init_11 : Dc cX0_init 11 3 14 (.invokespecial 11) := ⟨by decide +kernel, rfl⟩
theorem d_X0_init_14 : Dc cX0_init 14 3 17 (.putfield 14) := ⟨by decide +kernel, rfl⟩
theorem d_X0_init_17 : Dc cX0_init 17 1 18 (.aload_n 0) := ⟨by decide +kernel, rfl⟩
theorem d_X0_init_18 : Dc cX0_init 18 2 20 (.bipush 16) := ⟨by decide +kernel, rfl⟩
theorem d_X0_init_20 : Dc cX0_init 20 2 22 (.newarray .int) := ⟨by decide +kernel, rfl⟩
theorem d_X0_init_22 : Dc cX0_init 22 3 25 (.putfield 20) := ⟨by decide +kernel, rfl⟩
theorem d_X0_init_25 : decode cX0_init 25 = .ok (.return_, 1) := by decide +kernel
set_option maxHeartbeats 4000000 in
set_option maxRecDepth 20000 in
theorem c_X0_init {E : Ev} {n : Nat} {M : Mem} {m : Nat} (hn : n = m + 1) (h0 : M m = .inr (0, [.null, .null])) : MT E yX0_init cX0_init 1 none 2 4 53 [.ref m] n M ((PF none (n + 4) (boU E M m z0 z0 0 z0))) := by
  refine MT.of (by decide) rfl (Nat.le_of_ble_eq_true rfl) ?_
  intro X g
  have g0 := g.1
  show V E X 0 0 n M 0 [some (.ref m)] []
  subst hn
  refine V.eqM (hd_1 (c := boC E m z0 z0 0 z0) h0) ?_
  refine V.al0 g0 d_X0_init_0 ?_
  refine V.oinit g0 d_X0_init_1 lk_X0_3 oi_inst oi_code (by decide) (Nat.le_of_ble_eq_true rfl) ?_
  refine V.al0 g0 d_X0_init_4 ?_
  refine V.newo g0 d_X0_init_5 nw_X0_9 (by omega) (by omega) ?_
  refine V.dup g0 d_X0_init_8 rfl ?_
  refine V.bipush g0 d_X0_init_9 (by decide) ?_
  refine V.callI g0 (c_X4_init (N := 17) rfl up_s (by decide)) ky_X4_init ki_X4_init rfl lk_X0_11 (Nat.le_of_ble_eq_true rfl) ⟨by omega, by omega⟩ rfl rfl (Nat.le_of_ble_eq_true rfl) d_X0_init_11 (fun v_11 n_11 M_11 h_11 => ?_)
  obtain ⟨rfl, rfl, rfl⟩ := h_11
  refine V.eqM ((ov_vup (by decide)).trans (hd_app (by decide) (fun i hi => by rcases j3 hi with rfl | rfl | rfl <;> rfl))) ?_
  refine V.putff g rfl rfl d_X0_init_14 fp_X0_14 rfl (by first | exact hd_0 (by omega) | exact hd_0 (by decide)) (Nat.le_of_ble_eq_true rfl) rfl rfl ?_
  refine V.eqM (hd_up (by decide)) ?_
  refine V.al0 g0 d_X0_init_17 ?_
  refine V.bipush g0 d_X0_init_18 (by decide) ?_
  refine V.newi g0 d_X0_init_20 (show (16 : Int) = ((16 : Nat) : Int) from rfl) (by omega) ac_int (by omega) (by omega) ?_
  refine V.eqM (hd_push (by decide) rfl) ?_
  refine V.putff g rfl rfl d_X0_init_22 fp_X0_20 rfl (by first | exact hd_0 (by omega) | exact hd_0 (by decide)) (Nat.le_of_ble_eq_true rfl) rfl rfl ?_
  refine V.eqM (hd_up (by decide)) ?_
  refine V.vret g d_X0_init_25 (by omega) (by omega) ?_
  exact ⟨rfl, rfl, hd_end rfl⟩

theorem d_X1_init_0 : Dc cX1_init 0 1 1 (.aload_n 0) := ⟨by decide +kernel, rfl⟩
theorem d_X1_init_1 : Dc cX1_init 1 3 4 (.invokespecial 3) := ⟨by decide +kernel, rfl⟩
theorem d_X1_init_4 : Dc cX1_init 4 1 5 (.aload_n 0) := ⟨by decide +kernel, rfl⟩
theorem d_X1_init_5 : Dc cX1_init 5 3 8 (.new 9) := ⟨by decide +kernel, rfl⟩
theorem d_X1_init_8 : Dc cX1_init 8 1 9 .dup := ⟨by decide +kernel, rfl⟩
theorem d_X1_init_9 : Dc cX1_init 9 2 11 (.bipush 60) := ⟨by decide +kernel, rfl⟩
theorem d_X1_init_11 : Dc cX1_init 11 3 14 (.invokespecial 11) := ⟨by decide +kernel, rfl⟩
theorem d_X1_init_14 : Dc cX1_init 14 3 17 (.putfield 14) := ⟨by decide +kernel, rfl⟩
theorem d_X1_init_17 : Dc cX1_init 17 1 18 (.aload_n 0) := ⟨by decide +kernel, rfl⟩
theorem d_X1_init_18 : Dc cX1_init 18 3 21 (.new 20) := ⟨by decide +kernel, rfl⟩
theorem d_X1_init_21 : Dc cX1_init 21 1 22 .dup := ⟨by decide +kernel, rfl⟩
theorem d_X1_init_22 : Dc cX1_init 22 3 25 (.invokespecial 22) := ⟨by decide +kernel, rfl⟩
theorem d_X1_init_25 : Dc cX1_init 25 3 28 (.putfield 23) := ⟨by decide +kernel, rfl⟩
theorem d_X1_init_28 : Dc cX1_init 28 1 29 (.aload_n 0) := ⟨by decide +kernel, rfl⟩
theorem d_X1_init_29 : Dc cX1_init 29 2 31 (.bipush 6) := ⟨by decide +kernel, rfl⟩
theorem d_X1_init_31 : Dc cX1_init 31 3 34 (.anewarray 27) := ⟨by decide +kernel, rfl⟩
theorem d_X1_init_34 : Dc cX1_init 34 3 37 (.putfield 29) := ⟨by decide +kernel, rfl⟩
theorem d_X1_init_37 : decode cX1_init 37 = .ok (.return_, 1) := by decide +kernel
set_option maxHeartbeats 4000000 in
set_option maxRecDepth 20000 in
theorem c_X1_init {E : Ev} {n : Nat} {M : Mem} {m : Nat} (hn : n = m + 1) (h0 : M m = .inr (1, [.int 0, .int 0, .int 0, .null, .null, .null])) : MT E yX1_init cX1_init 1 none 3 9 186 [.ref m] n M ((PF none (n + 9) (ov M m 10 (hcC E m c0)))) := by
  refine MT.of (by decide) rfl (Nat.le_of_ble_eq_true rfl) ?_
  intro X g
  have g0 := g.1
  show V E X 0 0 n M 0 [some (.ref m)] []
  subst hn
  refine V.eqM (hd_1 (c := hcC E m c0) h0) ?_
  refine V.al0 g0 d_X1_init_0 ?_
  refine V.oinit g0 d_X1_init_1 lk_X1_3 oi_inst oi_code (by decide) (Nat.le_of_ble_eq_true rfl) ?_
  refine V.al0 g0 d_X1_init_4 ?_
  refine V.newo g0 d_X1_init_5 nw_X1_9 (by omega) (by omega) ?_
  refine V.dup g0 d_X1_init_8 rfl ?_
  refine V.bipush g0 d_X1_init_9 (by decide) ?_
  refine V.callI g0 (c_X4_init (N := 61) rfl up_s (by decide)) ky_X4_init ki_X4_init rfl lk_X1_11 (Nat.le_of_ble_eq_true rfl) ⟨by omega, by omega⟩ rfl rfl (Nat.le_of_ble_eq_true rfl) d_X1_init_11 (fun v_11 n_11 M_11 h_11 => ?_)
  obtain ⟨rfl, rfl, rfl⟩ := h_11
  refine V.eqM ((ov_vup (by decide)).trans (hd_app (by decide) (fun i hi => by rcases j3 hi with rfl | rfl | rfl <;> rfl))) ?_
  refine V.putff g rfl rfl d_X1_init_14 fp_X1_14 rfl (by first | exact hd_0 (by omega) | exact hd_0 (by decide)) (Nat.le_of_ble_eq_true rfl) rfl rfl ?_
  refine V.eqM (hd_up (by decide)) ?_
  refine V.al0 g0 d_X1_init_17 ?_
  refine V.newo g0 d_X1_init_18 nw_X1_20 (by omega) (by omega) ?_
  refine V.dup g0 d_X1_init_21 rfl ?_
  refine V.callI g0 (c_X0_init rfl up_s) ky_X0_init ki_X0_init rfl lk_X1_22 (Nat.le_of_ble_eq_true rfl) ⟨by omega, by omega⟩ rfl rfl (Nat.le_of_ble_eq_true rfl) d_X1_init_22 (fun v_22 n_22 M_22 h_22 => ?_)
  obtain ⟨rfl, rfl, rfl⟩ := h_22
  refine V.eqM ((ov_vup (by decide)).trans (hd_app (by decide) (fun i hi => by rcases j5 hi with rfl | rfl | rfl | rfl | rfl <;> rfl))) ?_
  refine V.putff g rfl rfl d_X1_init_25 fp_X1_23 rfl (by first | exact hd_0 (by omega) | exact hd_0 (by decide)) (Nat.le_of_ble_eq_true rfl) rfl rfl ?_
  refine V.eqM (hd_up (by decide)) ?_
  refine V.al0 g0 d_X1_init_28 ?_
  refine V.bipush g0 d_X1_init_29 (by decide) ?_
  refine V.newr (w := 4) g0 d_X1_init_31 rfl (show (6 : Int) = ((6 : Nat) : Int) from rfl) (by omega) (by decide +kernel) cl_X1_27 (by omega) (by omega) ?_
  refine V.eqM (hd_push (by decide) rfl) ?_
  refine V.putff g rfl rfl d_X1_init_34 fp_X1_29 rfl (by first | exact hd_0 (by omega) | exact hd_0 (by decide)) (Nat.le_of_ble_eq_true rfl) rfl rfl ?_
  refine V.eqM (hd_up (by decide)) ?_
  refine V.vret g d_X1_init_37 (by omega) (by omega) ?_
  exact ⟨rfl, rfl, hd_end rfl⟩

theorem d_X2_init_0 : Dc cX2_init 0 1 1 (.aload_n 0) := ⟨by decide +kernel, rfl⟩
theorem d_X2_init_1 : Dc cX2_init 1 3 4 (.invokespecial 3) := ⟨by decide +kernel, rfl⟩
theorem d_X2_init_4 : Dc cX2_init 4 1 5 (.aload_n 0) := ⟨by decide +kernel, rfl⟩
theorem d_X2_init_5 : Dc cX2_init 5 2 7 (.bipush 6) := ⟨by decide +kernel, rfl⟩
theorem d_X2_init_7 : Dc cX2_init 7 3 10 (.anewarray 9) := ⟨by decide +kernel, rfl⟩
theorem d_X2_init_10 : Dc cX2_init 10 3 13 (.putfield 11) := ⟨by decide +kernel, rfl⟩
theorem d_X2_init_13 : Dc cX2_init 13 1 14 (.iconst 0) := ⟨by decide +kernel, rfl⟩
theorem d_X2_init_14 : Dc cX2_init 14 1 15 (.istore_n 1) := ⟨by decide +kernel, rfl⟩
theorem d_X2_init_15 : Dc cX2_init 15 1 16 (.iload_n 1) := ⟨by decide +kernel, rfl⟩
theorem d_X2_init_16 : Dc cX2_init 16 1 17 (.aload_n 0) := ⟨by decide +kernel, rfl⟩
theorem d_X2_init_17 : Dc cX2_init 17 3 20 (.getfield 11) := ⟨by decide +kernel, rfl⟩
theorem d_X2_init_20 : Dc cX2_init 20 1 21 .arraylength := ⟨by decide +kernel, rfl⟩
theorem d_X2_init_21 : Dj cX2_init 21 24 43 (.if_icmp .ge) := ⟨22, by decide +kernel, rfl, by decide⟩
theorem d_X2_init_24 : Dc cX2_init 24 1 25 (.aload_n 0) := ⟨by decide +kernel, rfl⟩
theorem d_X2_init_25 : Dc cX2_init 25 3 28 (.getfield 11) := ⟨by decide +kernel, rfl⟩
theorem d_X2_init_28 : Dc cX2_init 28 1 29 (.iload_n 1) := ⟨by decide +kernel, rfl⟩
theorem d_X2_init_29 : Dc cX2_init 29 3 32 (.new 9) := ⟨by decide +kernel, rfl⟩
theorem d_X2_init_32 : Dc cX2_init 32 1 33 .dup := ⟨by decide +kernel, rfl⟩
theorem d_X2_init_33 : Dc cX2_init 33 3 36 (.invokespecial 17) := ⟨by decide +kernel, rfl⟩
theorem d_X2_init_36 : Dc cX2_init 36 1 37 .aastore := ⟨by decide +kernel, rfl⟩
theorem d_X2_init_37 : Dc cX2_init 37 3 40 (.iinc 1 1) := ⟨by decide +kernel, rfl⟩
theorem d_X2_init_40 : Dj cX2_init 40 43 15 .goto := ⟨(-25), by decide +kernel, rfl, by decide⟩
theorem d_X2_init_43 : decode cX2_init 43 = .ok (.return_, 1) := by decide +kernel
set_option maxHeartbeats 4000000 in
set_option maxRecDepth 20000 in
theorem c_X2_init {E : Ev} {n : Nat} {M : Mem} {m : Nat} (hn : n = m + 1) (h0 : M m = .inr (2, [.int 0, .int 0, .int 0, .long 0, .null])) : MT E yX2_init cX2_init 2 none 4 61 1158 [.ref m] n M ((PF none (n + 61) (stU E M m 0 0 0 0 (fun _ => c0)))) := by
  refine MT.of (by decide) rfl (Nat.le_of_ble_eq_true rfl) ?_
  intro X g
  have g0 := g.1
  show V E X 0 0 n M 0 [some (.ref m), none] []
  subst hn
  refine V.eqM (hd_1 (c := cS E m 0) h0) ?_
  refine V.al0 g0 d_X2_init_0 ?_
  refine V.oinit g0 d_X2_init_1 lk_X2_3 oi_inst oi_code (by decide) (Nat.le_of_ble_eq_true rfl) ?_
  refine V.al0 g0 d_X2_init_4 ?_
  refine V.bipush g0 d_X2_init_5 (by decide) ?_
  refine V.newr (w := 2) g0 d_X2_init_7 rfl (show (6 : Int) = ((6 : Nat) : Int) from rfl) (by omega) (by decide +kernel) cl_X2_9 (by omega) (by omega) ?_
  refine V.eqM (hd_push (by decide) (show ra E 2 6 (gR (m + 2) 10 0) = _ by rw [gR_0])) ?_
  refine V.putff g rfl rfl d_X2_init_10 fp_X2_11 rfl (by first | exact hd_0 (by omega) | exact hd_0 (by decide)) (Nat.le_of_ble_eq_true rfl) rfl rfl ?_
  refine V.eqM (hd_up (by decide)) ?_
  refine V.iconst g0 d_X2_init_13 ?_
  refine V.is1 g0 d_X2_init_14 ?_
  have LP : ∀ (f i : Nat), i + f = 6 → V E X (1 + 10 * i) (6 + 192 * i) (m + (2 + 10 * i)) (ov M m (2 + 10 * i) (hdC (oS2 m) (cS E m i))) 15 [some (.ref m), some (.int (iI (i : Int)))] [] := by
    intro f
    induction f using Nat.strongRecOn with
    | _ f ih =>
    intro i hf
    have ha : ∀ k, 1 < k → ov M m k (hdC (oS2 m) (cS E m i)) (m + 1) = ra E 2 6 (gR (m + 2) 10 i) := fun k hk => (hd_i hk (by decide)).trans rfl
    refine V.il1 g0 d_X2_init_15 ?_
    refine V.al0 g0 d_X2_init_16 ?_
    refine V.getf g0 d_X2_init_17 fl_X2_11 (by first | exact hd_0 (by omega) | exact hd_0 (by decide)) (by rfl) ?_
    refine V.alen_ra g0 d_X2_init_20 (ha _ (by omega)) (by decide) ?_
    refine V.icmpge g0 d_X2_init_21 (by omega) (fun c_21 => ?_) (fun c_21 => ?_)
    · skip
      have ei : i = 6 := by omega
      subst ei
      refine V.repR (h := hsF m) (ha _ (by decide)) (fun j g1 g2 => (if_pos (by omega)).trans (by unfold hsF hbs; rw [show m + (2 + 10 * j.toNat) = m + 2 + 10 * j.toNat by omega])) ?_
      refine V.eqM cS_end ?_
      refine V.vret g d_X2_init_43 (by omega) (by omega) ?_
      exact ⟨rfl, rfl, rfl⟩
    · skip
      refine V.al0 g0 d_X2_init_24 ?_
      refine V.getf g0 d_X2_init_25 fl_X2_11 (by first | exact hd_0 (by omega) | exact hd_0 (by decide)) (by rfl) ?_
      refine V.il1 g0 d_X2_init_28 ?_
      refine V.newo g0 d_X2_init_29 nw_X2_9 (by omega) (by omega) ?_
      refine V.dup g0 d_X2_init_32 rfl ?_
      refine V.callI g0 (c_X1_init rfl up_s) ky_X1_init ki_X1_init rfl lk_X2_17 (Nat.le_of_ble_eq_true rfl) ⟨by omega, by omega⟩ rfl rfl (Nat.le_of_ble_eq_true rfl) d_X2_init_33 (fun v_33 n_33 M_33 h_33 => ?_)
      obtain ⟨rfl, rfl, rfl⟩ := h_33
      refine V.eqM ((ov_vup (by decide)).trans (hd_app (by omega) (fun z hz => cS_h hz))) ?_
      refine V.aast g0 d_X2_init_36 (ha _ (by omega)) rfl ((hd_i (j := 2 + 10 * i) (by omega) (by omega)).trans (cS_h (z := 0) (by decide))) rfl (by omega) (by decide) ?_
      refine V.eqM ((congrArg (fun z => va_up (ov M m (2 + 10 * i + 10) (hdC (oS2 m) (cS E m i))) (m + 1) (ra E 2 6 (upR (gR (m + 2) 10 i) i (some z)))) (show m + (2 + 10 * i) = m + 2 + 10 * i by omega)).trans (cS_up (by omega))) ?_
      refine V.inc1 g0 d_X2_init_37 ?_
      refine V.goto g0 d_X2_init_40 ?_
      exact V.eqA (by omega) (by omega) (by omega) (congrArg (fun z => ov M m z (hdC (oS2 m) (cS E m (i + 1)))) (by omega)) (ih (f - 1) (by omega) (i + 1) (by omega))
  exact LP 6 0 (by omega)

theorem d_X3_init_0 : Dc cX3_init 0 1 1 (.aload_n 0) := ⟨by decide +kernel, rfl⟩
theorem d_X3_init_1 : Dc cX3_init 1 3 4 (.invokespecial 3) := ⟨by decide +kernel, rfl⟩
theorem d_X3_init_4 : Dc cX3_init 4 1 5 (.aload_n 0) := ⟨by decide +kernel, rfl⟩
theorem d_X3_init_5 : Dc cX3_init 5 2 7 (.bipush 60) := ⟨by decide +kernel, rfl⟩
theorem d_X3_init_7 : Dc cX3_init 7 2 9 (.newarray .char) := ⟨by decide +kernel, rfl⟩
theorem d_X3_init_9 : Dc cX3_init 9 3 12 (.putfield 9) := ⟨by decide +kernel, rfl⟩
theorem d_X3_init_12 : decode cX3_init 12 = .ok (.return_, 1) := by decide +kernel
set_option maxHeartbeats 4000000 in
set_option maxRecDepth 20000 in
theorem c_X3_init {E : Ev} {n : Nat} {M : Mem} {m : Nat} (hn : n = m + 1) (h0 : M m = .inr (3, [.null, .int 0, .int 0, .int 0, .int 0, .int 0, .int 0, .int 0, .int 0, .int 0, .int 0])) : MT E yX3_init cX3_init 1 none 1 1 60 [.ref m] n M ((PF none (n + 1) (ov M m 2 (xtC E m z0 0 0 0 0 0 0 0 0 0 0)))) := by
  refine MT.of (by decide) rfl (Nat.le_of_ble_eq_true rfl) ?_
  intro X g
  have g0 := g.1
  show V E X 0 0 n M 0 [some (.ref m)] []
  subst hn
  refine V.eqM (hd_1 (c := xtC E m z0 0 0 0 0 0 0 0 0 0 0) h0) ?_
  refine V.al0 g0 d_X3_init_0 ?_
  refine V.oinit g0 d_X3_init_1 lk_X3_3 oi_inst oi_code (by decide) (Nat.le_of_ble_eq_true rfl) ?_
  refine V.al0 g0 d_X3_init_4 ?_
  refine V.bipush g0 d_X3_init_5 (by decide) ?_
  refine V.newc g0 d_X3_init_7 (show (60 : Int) = ((60 : Nat) : Int) from rfl) (by omega) ac_char (by omega) (by omega) ?_
  refine V.eqM (hd_push (by decide) rfl) ?_
  refine V.putff g rfl rfl d_X3_init_9 fp_X3_9 rfl (by first | exact hd_0 (by omega) | exact hd_0 (by decide)) (Nat.le_of_ble_eq_true rfl) rfl rfl ?_
  refine V.eqM (hd_up (by decide)) ?_
  refine V.vret g d_X3_init_12 (by omega) (by omega) ?_
  exact ⟨rfl, rfl, hd_end rfl⟩

theorem d_X6_init_0 : Dc cX6_init 0 1 1 (.aload_n 0) := ⟨by decide +kernel, rfl⟩
theorem d_X6_init_1 : Dc cX6_init 1 3 4 (.invokespecial 3) := ⟨by decide +kernel, rfl⟩
theorem d_X6_init_4 : Dc cX6_init 4 1 5 (.aload_n 0) := ⟨by decide +kernel, rfl⟩
theorem d_X6_init_5 : Dc cX6_init 5 3 8 (.new 9) := ⟨by decide +kernel, rfl⟩
theorem d_X6_init_8 : Dc cX6_init 8 1 9 .dup := ⟨by decide +kernel, rfl⟩
theorem d_X6_init_9 : Dc cX6_init 9 3 12 (.invokespecial 11) := ⟨by decide +kernel, rfl⟩
theorem d_X6_init_12 : Dc cX6_init 12 3 15 (.putfield 12) := ⟨by decide +kernel, rfl⟩
theorem d_X6_init_15 : Dc cX6_init 15 1 16 (.aload_n 0) := ⟨by decide +kernel, rfl⟩
theorem d_X6_init_16 : Dc cX6_init 16 3 19 (.new 9) := ⟨by decide +kernel, rfl⟩
theorem d_X6_init_19 : Dc cX6_init 19 1 20 .dup := ⟨by decide +kernel, rfl⟩
theorem d_X6_init_20 : Dc cX6_init 20 3 23 (.invokespecial 11) := ⟨by decide +kernel, rfl⟩
theorem d_X6_init_23 : Dc cX6_init 23 3 26 (.putfield 16) := ⟨by decide +kernel, rfl⟩
theorem d_X6_init_26 : Dc cX6_init 26 1 27 (.aload_n 0) := ⟨by decide +kernel, rfl⟩
theorem d_X6_init_27 : Dc cX6_init 27 3 30 (.new 9) := ⟨by decide +kernel, rfl⟩
theorem d_X6_init_30 : Dc cX6_init 30 1 31 .dup := ⟨by decide +kernel, rfl⟩
theorem d_X6_init_31 : Dc cX6_init 31 3 34 (.invokespecial 11) := ⟨by decide +kernel, rfl⟩
theorem d_X6_init_34 : Dc cX6_init 34 3 37 (.putfield 19) := ⟨by decide +kernel, rfl⟩
theorem d_X6_init_37 : Dc cX6_init 37 1 38 (.aload_n 0) := ⟨by decide +kernel, rfl⟩
theorem d_X6_init_38 : Dc cX6_init 38 1 39 (.iconst 4) := ⟨by decide +kernel, rfl⟩
theorem d_X6_init_39 : Dc cX6_init 39 3 42 (.anewarray 9) := ⟨by decide +kernel, rfl⟩
theorem d_X6_init_42 : Dc cX6_init 42 3 45 (.putfield 22) := ⟨by decide +kernel, rfl⟩
theorem d_X6_init_45 : Dc cX6_init 45 1 46 (.iconst 0) := ⟨by decide +kernel, rfl⟩
theorem d_X6_init_46 : Dc cX6_init 46 1 47 (.istore_n 1) := ⟨by decide +kernel, rfl⟩
theorem d_X6_init_47 : Dc cX6_init 47 1 48 (.iload_n 1) := ⟨by decide +kernel, rfl⟩
theorem d_X6_init_48 : Dc cX6_init 48 1 49 (.aload_n 0) := ⟨by decide +kernel, rfl⟩
theorem d_X6_init_49 : Dc cX6_init 49 3 52 (.getfield 22) := ⟨by decide +kernel, rfl⟩
theorem d_X6_init_52 : Dc cX6_init 52 1 53 .arraylength := ⟨by decide +kernel, rfl⟩
theorem d_X6_init_53 : Dj cX6_init 53 56 75 (.if_icmp .ge) := ⟨22, by decide +kernel, rfl, by decide⟩
theorem d_X6_init_56 : Dc cX6_init 56 1 57 (.aload_n 0) := ⟨by decide +kernel, rfl⟩
theorem d_X6_init_57 : Dc cX6_init 57 3 60 (.getfield 22) := ⟨by decide +kernel, rfl⟩
theorem d_X6_init_60 : Dc cX6_init 60 1 61 (.iload_n 1) := ⟨by decide +kernel, rfl⟩
theorem d_X6_init_61 : Dc cX6_init 61 3 64 (.new 9) := ⟨by decide +kernel, rfl⟩
theorem d_X6_init_64 : Dc cX6_init 64 1 65 .dup := ⟨by decide +kernel, rfl⟩
theorem d_X6_init_65 : Dc cX6_init 65 3 68 (.invokespecial 11) := ⟨by decide +kernel, rfl⟩
theorem d_X6_init_68 : Dc cX6_init 68 1 69 .aastore := ⟨by decide +kernel, rfl⟩
theorem d_X6_init_69 : Dc cX6_init 69 3 72 (.iinc 1 1) := ⟨by decide +kernel, rfl⟩
theorem d_X6_init_72 : Dj cX6_init 72 75 47 .goto := ⟨(-25), by decide +kernel, rfl, by decide⟩
theorem d_X6_init_75 : Dc cX6_init 75 1 76 (.aload_n 0) := ⟨by decide +kernel, rfl⟩
theorem d_X6_init_76 : Dc cX6_init 76 3 79 (.new 26) := ⟨by decide +kernel, rfl⟩
theorem d_X6_init_79 : Dc cX6_init 79 1 80 .dup := ⟨by decide +kernel, rfl⟩
theorem d_X6_init_80 : Dc cX6_init 80 3 83 (.invokespecial 28) := ⟨by decide +kernel, rfl⟩
theorem d_X6_init_83 : Dc cX6_init 83 3 86 (.putfield 29) := ⟨by decide +kernel, rfl⟩
theorem d_X6_init_86 : decode cX6_init 86 = .ok (.return_, 1) := by decide +kernel
set_option maxHeartbeats 4000000 in
set_option maxRecDepth 20000 in
theorem c_X6_init {E : Ev} {n : Nat} {M : Mem} {o : Nat} (hn : n = o + 1) (h0 : M o = .inr (6, [.null, .null, .int 0, .null, .null, .int 0, .null, .int 0, .int 0])) : MT E yX6_init cX6_init 2 none 5 437 8216 [.ref o] n M ((PF none (n + 437) (ov M o 438 (hdC (.inr (6, [.ref (o + 1), .ref (o + 187), .int 0, .ref (o + 63), .ref (o + 125), .int 0, .ref (o + 436), .int 0, .int 0])) (cX E o 4))))) := by
  refine MT.of (by decide) rfl (Nat.le_of_ble_eq_true rfl) ?_
  intro X g
  have g0 := g.1
  show V E X 0 0 n M 0 [some (.ref o), none] []
  subst hn
  refine V.eqM (hd_1 (c := cX E o 0) h0) ?_
  refine V.al0 g0 d_X6_init_0 ?_
  refine V.oinit g0 d_X6_init_1 lk_X6_3 oi_inst oi_code (by decide) (Nat.le_of_ble_eq_true rfl) ?_
  refine V.al0 g0 d_X6_init_4 ?_
  refine V.newo g0 d_X6_init_5 nw_X6_9 (by omega) (by omega) ?_
  refine V.dup g0 d_X6_init_8 rfl ?_
  refine V.callI g0 (c_X2_init rfl up_s) ky_X2_init ki_X2_init rfl lk_X6_11 (Nat.le_of_ble_eq_true rfl) ⟨by omega, by omega⟩ rfl rfl (Nat.le_of_ble_eq_true rfl) d_X6_init_9 (fun v_9 n_9 M_9 h_9 => ?_)
  obtain ⟨rfl, rfl, rfl⟩ := h_9
  refine V.eqM ((ov_vup (by decide)).trans (hd_app (by omega) (fun z hz => cX_a hz))) ?_
  refine V.putff g rfl rfl d_X6_init_12 fp_X6_12 rfl (by first | exact hd_0 (by omega) | exact hd_0 (by decide)) (Nat.le_of_ble_eq_true rfl) rfl rfl ?_
  refine V.eqM (hd_up (by omega)) ?_
  refine V.al0 g0 d_X6_init_15 ?_
  refine V.newo g0 d_X6_init_16 nw_X6_9 (by omega) (by omega) ?_
  refine V.dup g0 d_X6_init_19 rfl ?_
  refine V.callI g0 (c_X2_init rfl up_s) ky_X2_init ki_X2_init rfl lk_X6_11 (Nat.le_of_ble_eq_true rfl) ⟨by omega, by omega⟩ rfl rfl (Nat.le_of_ble_eq_true rfl) d_X6_init_20 (fun v_20 n_20 M_20 h_20 => ?_)
  obtain ⟨rfl, rfl, rfl⟩ := h_20
  refine V.eqM ((ov_vup (by decide)).trans (hd_app (by omega) (fun z hz => cX_b hz))) ?_
  refine V.putf g0 d_X6_init_23 fp_X6_16 (by first | exact hd_0 (by omega) | exact hd_0 (by decide)) (Nat.le_of_ble_eq_true rfl) rfl rfl ?_
  refine V.eqM (hd_up (by omega)) ?_
  refine V.al0 g0 d_X6_init_26 ?_
  refine V.newo g0 d_X6_init_27 nw_X6_9 (by omega) (by omega) ?_
  refine V.dup g0 d_X6_init_30 rfl ?_
  refine V.callI g0 (c_X2_init rfl up_s) ky_X2_init ki_X2_init rfl lk_X6_11 (Nat.le_of_ble_eq_true rfl) ⟨by omega, by omega⟩ rfl rfl (Nat.le_of_ble_eq_true rfl) d_X6_init_31 (fun v_31 n_31 M_31 h_31 => ?_)
  obtain ⟨rfl, rfl, rfl⟩ := h_31
  refine V.eqM ((ov_vup (by decide)).trans (hd_app (by omega) (fun z hz => cX_c hz))) ?_
  refine V.putff g rfl rfl d_X6_init_34 fp_X6_19 rfl (by first | exact hd_0 (by omega) | exact hd_0 (by decide)) (Nat.le_of_ble_eq_true rfl) rfl rfl ?_
  refine V.eqM (hd_up (by omega)) ?_
  refine V.al0 g0 d_X6_init_37 ?_
  refine V.iconst g0 d_X6_init_38 ?_
  refine V.newr (w := 3) g0 d_X6_init_39 rfl (show (4 : Int) = ((4 : Nat) : Int) from rfl) (by omega) (by decide +kernel) cl_X6_9 (by omega) (by omega) ?_
  refine V.eqM (hd_push (by decide) (show cX E o 0 187 = _ by rw [cX_r, gR_0])) ?_
  refine V.putff g rfl rfl d_X6_init_42 fp_X6_22 rfl (by first | exact hd_0 (by omega) | exact hd_0 (by decide)) (Nat.le_of_ble_eq_true rfl) rfl rfl ?_
  refine V.eqM (hd_up (by omega)) ?_
  refine V.iconst g0 d_X6_init_45 ?_
  refine V.is1 g0 d_X6_init_46 ?_
  have LP : ∀ (f i : Nat), i + f = 4 → V E X (187 + 62 * i) (3493 + 1163 * i) (o + (188 + 62 * i)) (ov M o (188 + 62 * i) (hdC (.inr (6, [.ref (o + 1), .ref (o + 187), .int 0, .ref (o + 63), .ref (o + 125), .int 0, .null, .int 0, .int 0])) (cX E o i))) 47 [some (.ref o), some (.int (iI (i : Int)))] [] := by
    intro f
    induction f using Nat.strongRecOn with
    | _ f ih =>
    intro i hf
    have ha : ∀ k, 187 < k → ov M o k (hdC (.inr (6, [.ref (o + 1), .ref (o + 187), .int 0, .ref (o + 63), .ref (o + 125), .int 0, .null, .int 0, .int 0])) (cX E o i)) (o + 187) = ra E 3 4 (gR (o + 188) 62 i) := fun k hk => (hd_i hk (by decide)).trans cX_r
    refine V.il1 g0 d_X6_init_47 ?_
    refine V.al0 g0 d_X6_init_48 ?_
    refine V.getf g0 d_X6_init_49 fl_X6_22 (by first | exact hd_0 (by omega) | exact hd_0 (by decide)) (by rfl) ?_
    refine V.alen_ra g0 d_X6_init_52 (ha _ (by omega)) (by decide) ?_
    refine V.icmpge g0 d_X6_init_53 (by omega) (fun c_53 => ?_) (fun c_53 => ?_)
    · skip
      have ei : i = 4 := by omega
      subst ei
      refine V.al0 g0 d_X6_init_75 ?_
      refine V.newo g0 d_X6_init_76 nw_X6_26 (by omega) (by omega) ?_
      refine V.dup g0 d_X6_init_79 rfl ?_
      refine V.callI g0 (c_X3_init rfl up_s) ky_X3_init ki_X3_init rfl lk_X6_28 (Nat.le_of_ble_eq_true rfl) ⟨by omega, by omega⟩ rfl rfl (Nat.le_of_ble_eq_true rfl) d_X6_init_80 (fun v_80 n_80 M_80 h_80 => ?_)
      obtain ⟨rfl, rfl, rfl⟩ := h_80
      refine V.eqM ((ov_vup (by decide)).trans (hd_app (by omega) (fun z hz => cX_t hz))) ?_
      refine V.putff g rfl rfl d_X6_init_83 fp_X6_29 rfl (by first | exact hd_0 (by omega) | exact hd_0 (by decide)) (Nat.le_of_ble_eq_true rfl) rfl rfl ?_
      refine V.eqM (hd_up (by omega)) ?_
      refine V.vret g d_X6_init_86 (by omega) (by omega) ?_
      exact ⟨rfl, rfl, rfl⟩
    · skip
      refine V.al0 g0 d_X6_init_56 ?_
      refine V.getf g0 d_X6_init_57 fl_X6_22 (by first | exact hd_0 (by omega) | exact hd_0 (by decide)) (by rfl) ?_
      refine V.il1 g0 d_X6_init_60 ?_
      refine V.newo g0 d_X6_init_61 nw_X6_9 (by omega) (by omega) ?_
      refine V.dup g0 d_X6_init_64 rfl ?_
      refine V.callI g0 (c_X2_init rfl up_s) ky_X2_init ki_X2_init rfl lk_X6_11 (Nat.le_of_ble_eq_true rfl) ⟨by omega, by omega⟩ rfl rfl (Nat.le_of_ble_eq_true rfl) d_X6_init_65 (fun v_65 n_65 M_65 h_65 => ?_)
      obtain ⟨rfl, rfl, rfl⟩ := h_65
      refine V.eqM ((ov_vup (by decide)).trans (hd_app (by omega) (fun z hz => (cX_h hz (by omega)).trans (by rw [Nat.add_assoc])))) ?_
      refine V.aast g0 d_X6_init_68 (ha _ (by omega)) rfl ((hd_i (j := 188 + 62 * i) (by omega) (by omega)).trans (cX_h (z := 0) (by decide) (by omega))) rfl (by omega) (by decide) ?_
      refine V.eqM ((congrArg (fun z => va_up (ov M o (188 + 62 * i + 62) (hdC (.inr (6, [.ref (o + 1), .ref (o + 187), .int 0, .ref (o + 63), .ref (o + 125), .int 0, .null, .int 0, .int 0])) (cX E o i))) (o + 187) (ra E 3 4 (upR (gR (o + 188) 62 i) i (some z)))) (show o + (188 + 62 * i) = o + 188 + 62 * i by omega)).trans (cX_up (by omega))) ?_
      refine V.inc1 g0 d_X6_init_69 ?_
      refine V.goto g0 d_X6_init_72 ?_
      exact V.eqA (by omega) (by omega) (by omega) (congrArg (fun z => ov M o z (hdC (.inr (6, [.ref (o + 1), .ref (o + 187), .int 0, .ref (o + 63), .ref (o + 125), .int 0, .null, .int 0, .int 0])) (cX E o (i + 1)))) (by omega)) (ih (f - 1) (by omega) (i + 1) (by omega))
  exact LP 4 0 (by omega)
