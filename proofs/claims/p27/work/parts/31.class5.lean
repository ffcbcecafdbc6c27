theorem d_X2_holderOf_0 : Dc cX2_holderOf 0 1 1 (.iload_n 1) := ⟨by decide +kernel, rfl⟩
theorem d_X2_holderOf_1 : Dc cX2_holderOf 1 1 2 (.iconst 0) := ⟨by decide +kernel, rfl⟩
theorem d_X2_holderOf_2 : Dc cX2_holderOf 2 1 3 (.aload_n 0) := ⟨by decide +kernel, rfl⟩
theorem d_X2_holderOf_3 : Dc cX2_holderOf 3 3 6 (.getfield 22) := ⟨by decide +kernel, rfl⟩
theorem d_X2_holderOf_6 : Dc cX2_holderOf 6 1 7 (.iconst 1) := ⟨by decide +kernel, rfl⟩
theorem d_X2_holderOf_7 : Dc cX2_holderOf 7 1 8 .isub := ⟨by decide +kernel, rfl⟩
theorem d_X2_holderOf_8 : Dc cX2_holderOf 8 3 11 (.invokestatic 36) := ⟨by decide +kernel, rfl⟩
theorem d_X2_holderOf_11 : Dj cX2_holderOf 11 14 23 (.ifCond .eq) := ⟨12, by decide +kernel, rfl, by decide⟩
theorem d_X2_holderOf_14 : Dc cX2_holderOf 14 1 15 (.aload_n 0) := ⟨by decide +kernel, rfl⟩
theorem d_X2_holderOf_15 : Dc cX2_holderOf 15 3 18 (.getfield 11) := ⟨by decide +kernel, rfl⟩
theorem d_X2_holderOf_18 : Dc cX2_holderOf 18 1 19 (.iload_n 1) := ⟨by decide +kernel, rfl⟩
theorem d_X2_holderOf_19 : Dc cX2_holderOf 19 1 20 .aaload := ⟨by decide +kernel, rfl⟩
theorem d_X2_holderOf_20 : Dj cX2_holderOf 20 23 24 .goto := ⟨4, by decide +kernel, rfl, by decide⟩
theorem d_X2_holderOf_23 : Dc cX2_holderOf 23 1 24 .aconst_null := ⟨by decide +kernel, rfl⟩
theorem d_X2_holderOf_24 : decode cX2_holderOf 24 = .ok (.areturn, 1) := by decide +kernel
set_option maxHeartbeats 4000000 in
set_option maxRecDepth 20000 in
theorem c_X2_holderOf {E : Ev} {n : Nat} {M : Mem} {m : Nat} {dy iss fg : Int} {cl : Int64} {C : Nat → HC} (hS : StM E M m dy iss fg cl C) (h6 : 0 ≤ iss ∧ iss ≤ 6) {p : Int} (h1 : rg p) : MT E yX2_holderOf cX2_holderOf 2 (some (.object "BorderStamps$Holder")) 1 0 0 [.ref m, .int (iI p)] n M ((PF (some (va_rf (holQ m iss p))) n (M))) := by
  refine MT.of (by decide) rfl (Nat.le_of_ble_eq_true rfl) ?_
  intro X g
  have g0 := g.1
  show V E X 0 0 n M 0 [some (.ref m), some (.int (iI p))] []
  have a0 := hS.h0
  have a1 := hS.h1
  refine V.il1 g0 d_X2_holderOf_0 ?_
  refine V.iconst g0 d_X2_holderOf_1 ?_
  refine V.al0 g0 d_X2_holderOf_2 ?_
  refine V.getf g0 d_X2_holderOf_3 fl_X2_22 (by assumption) (by rfl) ?_
  refine V.iconst g0 d_X2_holderOf_6 ?_
  refine V.isub g0 d_X2_holderOf_7 ?_
  refine V.callSNp g0 (c_X6_isWithin h1 (by decide) (by constructor <;> omega)) ky_X6_isWithin ks_X6_isWithin lk_X2_36 (Nat.le_of_ble_eq_true rfl) ⟨Nat.zero_le _, Nat.zero_le _⟩ rfl rfl (Nat.le_of_ble_eq_true rfl) d_X2_holderOf_8 ?_
  refine V.ifeqB g0 d_X2_holderOf_11 (fun c_11 => ?_) (fun c_11 => ?_)
  · skip
    have hq : holQ m iss p = none := if_neg c_11
    refine V.anull g0 d_X2_holderOf_23 ?_
    refine V.aret g d_X2_holderOf_24 (by first | exact Or.inl rfl | exact Or.inr ⟨_, rfl⟩) (Nat.zero_le _) (Nat.zero_le _) ?_
    rw [hq]; exact ⟨rfl, rfl, rfl⟩
  · skip
    have hq : holQ m iss p = hsF m p := if_pos c_11
    refine V.al0 g0 d_X2_holderOf_14 ?_
    refine V.getf g0 d_X2_holderOf_15 fl_X2_11 (by assumption) (by rfl) ?_
    refine V.il1 g0 d_X2_holderOf_18 ?_
    refine V.aald g0 d_X2_holderOf_19 (by assumption) rfl (by omega) (by decide) ?_
    refine V.goto g0 d_X2_holderOf_20 ?_
    refine V.aret g d_X2_holderOf_24 (by first | exact Or.inl rfl | exact Or.inr ⟨_, rfl⟩) (Nat.zero_le _) (Nat.zero_le _) ?_
    rw [hq]; exact ⟨rfl, rfl, rfl⟩

theorem d_X2_borderBit_0 : Dc cX2_borderBit 0 1 1 (.lconst 1) := ⟨by decide +kernel, rfl⟩
theorem d_X2_borderBit_1 : Dc cX2_borderBit 1 1 2 (.iload_n 0) := ⟨by decide +kernel, rfl⟩
theorem d_X2_borderBit_2 : Dc cX2_borderBit 2 1 3 (.iload_n 1) := ⟨by decide +kernel, rfl⟩
theorem d_X2_borderBit_3 : Dc cX2_borderBit 3 3 6 (.invokestatic 155) := ⟨by decide +kernel, rfl⟩
theorem d_X2_borderBit_6 : Dc cX2_borderBit 6 2 8 (.bipush 6) := ⟨by decide +kernel, rfl⟩
theorem d_X2_borderBit_8 : Dc cX2_borderBit 8 1 9 .imul := ⟨by decide +kernel, rfl⟩
theorem d_X2_borderBit_9 : Dc cX2_borderBit 9 1 10 (.iload_n 0) := ⟨by decide +kernel, rfl⟩
theorem d_X2_borderBit_10 : Dc cX2_borderBit 10 1 11 (.iload_n 1) := ⟨by decide +kernel, rfl⟩
theorem d_X2_borderBit_11 : Dc cX2_borderBit 11 3 14 (.invokestatic 161) := ⟨by decide +kernel, rfl⟩
theorem d_X2_borderBit_14 : Dc cX2_borderBit 14 1 15 .iadd := ⟨by decide +kernel, rfl⟩
theorem d_X2_borderBit_15 : Dc cX2_borderBit 15 1 16 .lshl := ⟨by decide +kernel, rfl⟩
theorem d_X2_borderBit_16 : decode cX2_borderBit 16 = .ok (.lreturn, 1) := by decide +kernel
set_option maxHeartbeats 4000000 in
set_option maxRecDepth 20000 in
theorem c_X2_borderBit {E : Ev} {n : Nat} {M : Mem} {a b : Int} (h1 : 0 ≤ a ∧ a ≤ 5) (h2 : 0 ≤ b ∧ b ≤ 5) : MT E yX2_borderBit cX2_borderBit 2 (some .long) 1 0 0 [.int (iI a), .int (iI b)] n M ((PF (some (.long (brd a b))) n (M))) := by
  refine MT.of (by decide) rfl (Nat.le_of_ble_eq_true rfl) ?_
  intro X g
  have g0 := g.1
  show V E X 0 0 n M 0 [some (.int (iI a)), some (.int (iI b))] []
  refine V.lconst1 g0 d_X2_borderBit_0 ?_
  refine V.il0 g0 d_X2_borderBit_1 ?_
  refine V.il1 g0 d_X2_borderBit_2 ?_
  refine V.callSp g0 (c_J9_min_7cf53 (by constructor <;> omega) (by constructor <;> omega)) ky_J9_min_7cf53 ks_J9_min_7cf53 lk_X2_155 (Nat.le_of_ble_eq_true rfl) ⟨Nat.zero_le _, Nat.zero_le _⟩ rfl rfl (Nat.le_of_ble_eq_true rfl) d_X2_borderBit_3 ?_
  refine V.bipush g0 d_X2_borderBit_6 (by decide) ?_
  refine V.imul g0 d_X2_borderBit_8 ?_
  refine V.il0 g0 d_X2_borderBit_9 ?_
  refine V.il1 g0 d_X2_borderBit_10 ?_
  refine V.callSp g0 (c_J9_max_7cf53 (by constructor <;> omega) (by constructor <;> omega)) ky_J9_max_7cf53 ks_J9_max_7cf53 lk_X2_161 (Nat.le_of_ble_eq_true rfl) ⟨Nat.zero_le _, Nat.zero_le _⟩ rfl rfl (Nat.le_of_ble_eq_true rfl) d_X2_borderBit_11 ?_
  refine V.iadd g0 d_X2_borderBit_14 ?_
  refine V.lshl g0 d_X2_borderBit_15 rfl ?_
  exact V.lret g d_X2_borderBit_16 (Nat.zero_le _) (Nat.zero_le _) ⟨rfl, rfl, rfl⟩

theorem d_X2_isOpen_0 : Dc cX2_isOpen 0 1 1 (.aload_n 0) := ⟨by decide +kernel, rfl⟩
theorem d_X2_isOpen_1 : Dc cX2_isOpen 1 3 4 (.getfield 28) := ⟨by decide +kernel, rfl⟩
theorem d_X2_isOpen_4 : Dc cX2_isOpen 4 1 5 (.iload_n 1) := ⟨by decide +kernel, rfl⟩
theorem d_X2_isOpen_5 : Dc cX2_isOpen 5 1 6 (.iload_n 2) := ⟨by decide +kernel, rfl⟩
theorem d_X2_isOpen_6 : Dc cX2_isOpen 6 3 9 (.invokestatic 96) := ⟨by decide +kernel, rfl⟩
theorem d_X2_isOpen_9 : Dc cX2_isOpen 9 1 10 .land := ⟨by decide +kernel, rfl⟩
theorem d_X2_isOpen_10 : Dc cX2_isOpen 10 1 11 (.lconst 0) := ⟨by decide +kernel, rfl⟩
theorem d_X2_isOpen_11 : Dc cX2_isOpen 11 1 12 .lcmp := ⟨by decide +kernel, rfl⟩
theorem d_X2_isOpen_12 : Dj cX2_isOpen 12 15 19 (.ifCond .ne) := ⟨7, by decide +kernel, rfl, by decide⟩
theorem d_X2_isOpen_15 : Dc cX2_isOpen 15 1 16 (.iconst 1) := ⟨by decide +kernel, rfl⟩
theorem d_X2_isOpen_16 : Dj cX2_isOpen 16 19 20 .goto := ⟨4, by decide +kernel, rfl, by decide⟩
theorem d_X2_isOpen_19 : Dc cX2_isOpen 19 1 20 (.iconst 0) := ⟨by decide +kernel, rfl⟩
theorem d_X2_isOpen_20 : decode cX2_isOpen 20 = .ok (.ireturn, 1) := by decide +kernel
set_option maxHeartbeats 4000000 in
set_option maxRecDepth 20000 in
theorem c_X2_isOpen {E : Ev} {n : Nat} {M : Mem} {m : Nat} {dy iss fg : Int} {cl : Int64} {C : Nat → HC} (hS : StM E M m dy iss fg cl C) {a b : Int} (h1 : 0 ≤ a ∧ a ≤ 5) (h2 : 0 ≤ b ∧ b ≤ 5) : MT E yX2_isOpen cX2_isOpen 3 (some .boolean) 2 0 0 [.ref m, .int (iI a), .int (iI b)] n M (PF (some (.int (iI (bI (cl &&& brd a b = 0))))) n (M)) := by
  refine MT.of (by decide) rfl (Nat.le_of_ble_eq_true rfl) ?_
  intro X g
  have g0 := g.1
  show V E X 0 0 n M 0 [some (.ref m), some (.int (iI a)), some (.int (iI b))] []
  have a0 := hS.h0
  have a1 := hS.h1
  refine V.al0 g0 d_X2_isOpen_0 ?_
  refine V.getf g0 d_X2_isOpen_1 fl_X2_28 (by assumption) (by rfl) ?_
  refine V.il1 g0 d_X2_isOpen_4 ?_
  refine V.il2 g0 d_X2_isOpen_5 ?_
  refine V.callSp g0 (c_X2_borderBit h1 h2) ky_X2_borderBit ks_X2_borderBit lk_X2_96 (Nat.le_of_ble_eq_true rfl) ⟨Nat.zero_le _, Nat.zero_le _⟩ rfl rfl (Nat.le_of_ble_eq_true rfl) d_X2_isOpen_6 ?_
  refine V.land g0 d_X2_isOpen_9 rfl ?_
  refine V.lconst0 g0 d_X2_isOpen_10 ?_
  by_cases hz : cl &&& brd a b = 0
  · refine V.lcmp g0 d_X2_isOpen_11 (v := iI 0) (by rw [hz]; decide +kernel) ?_
    refine V.ifne g0 d_X2_isOpen_12 (by omega) (fun c_12 => ?_) (fun c_12 => ?_)
    · skip
      exfalso; omega
    · skip
      refine V.iconst g0 d_X2_isOpen_15 ?_
      refine V.goto g0 d_X2_isOpen_16 ?_
      refine V.zret g d_X2_isOpen_20 (by first | exact Or.inl rfl | exact Or.inr rfl | exact bI_01 _) (Nat.zero_le _) (Nat.zero_le _) ⟨congrArg (fun z => some (Value.int (iI z))) ?_, rfl, rfl⟩
      exact (bI_t hz).symm
  · rcases lcmp_nz hz with hq | hq
    · refine V.lcmp g0 d_X2_isOpen_11 (v := iI 1) hq ?_
      refine V.ifne g0 d_X2_isOpen_12 (by omega) (fun c_12 => ?_) (fun c_12 => ?_)
      · skip
        refine V.iconst g0 d_X2_isOpen_19 ?_
        refine V.zret g d_X2_isOpen_20 (by first | exact Or.inl rfl | exact Or.inr rfl | exact bI_01 _) (Nat.zero_le _) (Nat.zero_le _) ⟨congrArg (fun z => some (Value.int (iI z))) ?_, rfl, rfl⟩
        exact (bI_f hz).symm
      · skip
        exfalso; omega
    · refine V.lcmp g0 d_X2_isOpen_11 (v := iI (-1)) hq ?_
      refine V.ifne g0 d_X2_isOpen_12 (by omega) (fun c_12 => ?_) (fun c_12 => ?_)
      · skip
        refine V.iconst g0 d_X2_isOpen_19 ?_
        refine V.zret g d_X2_isOpen_20 (by first | exact Or.inl rfl | exact Or.inr rfl | exact bI_01 _) (Nat.zero_le _) (Nat.zero_le _) ⟨congrArg (fun z => some (Value.int (iI z))) ?_, rfl, rfl⟩
        exact (bI_f hz).symm
      · skip
        exfalso; omega

theorem d_X2_addHolder_0 : Dc cX2_addHolder 0 1 1 (.iload_n 1) := ⟨by decide +kernel, rfl⟩
theorem d_X2_addHolder_1 : Dc cX2_addHolder 1 3 4 (.invokestatic 46) := ⟨by decide +kernel, rfl⟩
theorem d_X2_addHolder_4 : Dj cX2_addHolder 4 7 9 (.ifCond .ne) := ⟨5, by decide +kernel, rfl, by decide⟩
theorem d_X2_addHolder_7 : Dc cX2_addHolder 7 1 8 (.iconst (-1)) := ⟨by decide +kernel, rfl⟩
theorem d_X2_addHolder_8 : decode cX2_addHolder 8 = .ok (.ireturn, 1) := by decide +kernel
theorem d_X2_addHolder_9 : Dc cX2_addHolder 9 1 10 (.aload_n 0) := ⟨by decide +kernel, rfl⟩
theorem d_X2_addHolder_10 : Dc cX2_addHolder 10 3 13 (.getfield 22) := ⟨by decide +kernel, rfl⟩
theorem d_X2_addHolder_13 : Dc cX2_addHolder 13 2 15 (.bipush 6) := ⟨by decide +kernel, rfl⟩
theorem d_X2_addHolder_15 : Dj cX2_addHolder 15 18 21 (.if_icmp .lt) := ⟨6, by decide +kernel, rfl, by decide⟩
theorem d_X2_addHolder_18 : Dc cX2_addHolder 18 2 20 (.bipush (-3)) := ⟨by decide +kernel, rfl⟩
theorem d_X2_addHolder_20 : decode cX2_addHolder 20 = .ok (.ireturn, 1) := by decide +kernel
theorem d_X2_addHolder_21 : Dc cX2_addHolder 21 1 22 (.aload_n 0) := ⟨by decide +kernel, rfl⟩
theorem d_X2_addHolder_22 : Dc cX2_addHolder 22 3 25 (.getfield 11) := ⟨by decide +kernel, rfl⟩
theorem d_X2_addHolder_25 : Dc cX2_addHolder 25 1 26 (.aload_n 0) := ⟨by decide +kernel, rfl⟩
theorem d_X2_addHolder_26 : Dc cX2_addHolder 26 3 29 (.getfield 22) := ⟨by decide +kernel, rfl⟩
theorem d_X2_addHolder_29 : Dc cX2_addHolder 29 1 30 .aaload := ⟨by decide +kernel, rfl⟩
theorem d_X2_addHolder_30 : Dc cX2_addHolder 30 1 31 (.iload_n 1) := ⟨by decide +kernel, rfl⟩
theorem d_X2_addHolder_31 : Dc cX2_addHolder 31 1 32 (.aload_n 0) := ⟨by decide +kernel, rfl⟩
theorem d_X2_addHolder_32 : Dc cX2_addHolder 32 3 35 (.getfield 18) := ⟨by decide +kernel, rfl⟩
theorem d_X2_addHolder_35 : Dc cX2_addHolder 35 3 38 (.invokevirtual 50) := ⟨by decide +kernel, rfl⟩
theorem d_X2_addHolder_38 : Dc cX2_addHolder 38 1 39 (.aload_n 0) := ⟨by decide +kernel, rfl⟩
theorem d_X2_addHolder_39 : Dc cX2_addHolder 39 1 40 .dup := ⟨by decide +kernel, rfl⟩
theorem d_X2_addHolder_40 : Dc cX2_addHolder 40 3 43 (.getfield 22) := ⟨by decide +kernel, rfl⟩
theorem d_X2_addHolder_43 : Dc cX2_addHolder 43 1 44 (.iconst 1) := ⟨by decide +kernel, rfl⟩
theorem d_X2_addHolder_44 : Dc cX2_addHolder 44 1 45 .iadd := ⟨by decide +kernel, rfl⟩
theorem d_X2_addHolder_45 : Dc cX2_addHolder 45 3 48 (.putfield 22) := ⟨by decide +kernel, rfl⟩
theorem d_X2_addHolder_48 : Dc cX2_addHolder 48 1 49 (.aload_n 0) := ⟨by decide +kernel, rfl⟩
theorem d_X2_addHolder_49 : Dc cX2_addHolder 49 3 52 (.getfield 22) := ⟨by decide +kernel, rfl⟩
theorem d_X2_addHolder_52 : Dc cX2_addHolder 52 1 53 (.iconst 1) := ⟨by decide +kernel, rfl⟩
theorem d_X2_addHolder_53 : Dc cX2_addHolder 53 1 54 .isub := ⟨by decide +kernel, rfl⟩
theorem d_X2_addHolder_54 : decode cX2_addHolder 54 = .ok (.ireturn, 1) := by decide +kernel
set_option maxHeartbeats 4000000 in
set_option maxRecDepth 20000 in
theorem c_X2_addHolder {E : Ev} {n : Nat} {M : Mem} {m : Nat} {dy iss fg : Int} {cl : Int64} {C : Nat → HC} (hS : StM E M m dy iss fg cl C) (h6 : 0 ≤ iss ∧ iss ≤ 6) {h : Int} (h1 : rg h) : MT E yX2_addHolder cX2_addHolder 2 (some .int) 4 0 0 [.ref m, .int (iI h)] n M ((PF (some (.int (iI ((if ¬ (0 ≤ h ∧ h ≤ 5) then -1 else if iss = 6 then -3 else iss, if (0 ≤ h ∧ h ≤ 5) ∧ iss ≠ 6 then stU E M m dy (iss + 1) fg cl (upC C iss.toNat (begC (C iss.toNat) h dy)) else M)).1))) n ((if ¬ (0 ≤ h ∧ h ≤ 5) then -1 else if iss = 6 then -3 else iss, if (0 ≤ h ∧ h ≤ 5) ∧ iss ≠ 6 then stU E M m dy (iss + 1) fg cl (upC C iss.toNat (begC (C iss.toNat) h dy)) else M)).2)) := by
  refine MT.of (by decide) rfl (Nat.le_of_ble_eq_true rfl) ?_
  intro X g
  have g0 := g.1
  show V E X 0 0 n M 0 [some (.ref m), some (.int (iI h))] []
  have a0 := hS.h0
  have a1 := hS.h1
  refine V.il1 g0 d_X2_addHolder_0 ?_
  refine V.callSNp g0 (c_X6_isCountry h1) ky_X6_isCountry ks_X6_isCountry lk_X2_46 (Nat.le_of_ble_eq_true rfl) ⟨Nat.zero_le _, Nat.zero_le _⟩ rfl rfl (Nat.le_of_ble_eq_true rfl) d_X2_addHolder_1 ?_
  refine V.ifneB g0 d_X2_addHolder_4 (fun c_4 => ?_) (fun c_4 => ?_)
  · skip
    refine V.al0 g0 d_X2_addHolder_9 ?_
    refine V.getf g0 d_X2_addHolder_10 fl_X2_22 (by first | exact st_M.h0 | exact st_M.h1 | assumption) (by rfl) ?_
    refine V.bipush g0 d_X2_addHolder_13 (by decide) ?_
    refine V.icmplt g0 d_X2_addHolder_15 (by omega) (fun c_15 => ?_) (fun c_15 => ?_)
    · skip
      have hh := st_M (E := E) (M := M) (t := m) (dy := dy) (iss := iss) (fg := fg) (cl := cl) (C := C) |>.ho (i := iss.toNat) (by omega)
      have hh0 := hh.h0
      refine V.eqM (st_id hS).symm ?_
      refine V.al0 g0 d_X2_addHolder_21 ?_
      refine V.getf g0 d_X2_addHolder_22 fl_X2_11 (by first | exact st_M.h0 | exact st_M.h1 | assumption) (by rfl) ?_
      refine V.al0 g0 d_X2_addHolder_25 ?_
      refine V.getf g0 d_X2_addHolder_26 fl_X2_22 (by first | exact st_M.h0 | exact st_M.h1 | assumption) (by rfl) ?_
      refine V.aald g0 d_X2_addHolder_29 (by first | exact st_M.h0 | exact st_M.h1 | assumption) rfl (by omega) (by decide) ?_
      rw [show hsF m iss = some (hbs m iss.toNat) from rfl]
      refine V.il1 g0 d_X2_addHolder_30 ?_
      refine V.al0 g0 d_X2_addHolder_31 ?_
      refine V.getf g0 d_X2_addHolder_32 fl_X2_18 (by first | exact st_M.h0 | exact st_M.h1 | assumption) (by rfl) ?_
      refine V.callVf g0 (c_X1_begin hh) ky_X1_begin ki_X1_begin ks2_X1_begin lk_X2_50 hh0 rfl rfl (Nat.le_of_ble_eq_true rfl) ⟨Nat.zero_le _, Nat.zero_le _⟩ rfl rfl (Nat.le_of_ble_eq_true rfl) d_X2_addHolder_35 ?_
      refine V.eqM (st_uh (i := iss.toNat) (c := begC (C iss.toNat) h dy) (by omega)) ?_
      refine V.al0 g0 d_X2_addHolder_38 ?_
      refine V.dup g0 d_X2_addHolder_39 rfl ?_
      refine V.getf g0 d_X2_addHolder_40 fl_X2_22 (by first | exact st_M.h0 | exact st_M.h1 | assumption) (by rfl) ?_
      refine V.iconst g0 d_X2_addHolder_43 ?_
      refine V.iadd g0 d_X2_addHolder_44 ?_
      refine V.putf g0 d_X2_addHolder_45 fp_X2_22 (by first | exact st_M.h0 | exact st_M.h1 | assumption) (Nat.le_of_ble_eq_true rfl) rfl rfl ?_
      refine V.eqM st_u0 ?_
      refine V.al0 g0 d_X2_addHolder_48 ?_
      refine V.getf g0 d_X2_addHolder_49 fl_X2_22 (by first | exact st_M.h0 | exact st_M.h1 | assumption) (by rfl) ?_
      refine V.iconst g0 d_X2_addHolder_52 ?_
      refine V.isub g0 d_X2_addHolder_53 ?_
      refine V.iret g d_X2_addHolder_54 (Nat.zero_le _) (Nat.zero_le _) ?_
      have e : (if ¬ (0 ≤ h ∧ h ≤ 5) then -1 else if iss = 6 then -3 else iss, if (0 ≤ h ∧ h ≤ 5) ∧ iss ≠ 6 then stU E M m dy (iss + 1) fg cl (upC C iss.toNat (begC (C iss.toNat) h dy)) else M) = (iss, stU E M m dy (iss + 1) fg cl (upC C iss.toNat (begC (C iss.toNat) h dy))) := by rw [if_neg (fun q => q c_4), if_neg (by omega), if_pos ⟨c_4, by omega⟩]
      rw [e]; exact ⟨by rw [show iss + 1 - 1 = iss by omega], rfl, rfl⟩
    · skip
      refine V.bipush g0 d_X2_addHolder_18 (by decide) ?_
      refine V.iret g d_X2_addHolder_20 (Nat.zero_le _) (Nat.zero_le _) ?_
      have e : (if ¬ (0 ≤ h ∧ h ≤ 5) then -1 else if iss = 6 then -3 else iss, if (0 ≤ h ∧ h ≤ 5) ∧ iss ≠ 6 then stU E M m dy (iss + 1) fg cl (upC C iss.toNat (begC (C iss.toNat) h dy)) else M) = (-3, M) := by rw [if_neg (fun q => q c_4), if_pos (by omega), if_neg (fun q => q.2 (by omega))]
      rw [e]; exact ⟨rfl, rfl, rfl⟩
  · skip
    refine V.iconst g0 d_X2_addHolder_7 ?_
    refine V.iret g d_X2_addHolder_8 (Nat.zero_le _) (Nat.zero_le _) ?_
    have e : (if ¬ (0 ≤ h ∧ h ≤ 5) then -1 else if iss = 6 then -3 else iss, if (0 ≤ h ∧ h ≤ 5) ∧ iss ≠ 6 then stU E M m dy (iss + 1) fg cl (upC C iss.toNat (begC (C iss.toNat) h dy)) else M) = (-1, M) := by rw [if_pos c_4, if_neg (fun q => c_4 q.1)]
    rw [e]; exact ⟨rfl, rfl, rfl⟩

theorem d_X2_giveBook_0 : Dc cX2_giveBook 0 1 1 (.aload_n 0) := ⟨by decide +kernel, rfl⟩
theorem d_X2_giveBook_1 : Dc cX2_giveBook 1 1 2 (.iload_n 1) := ⟨by decide +kernel, rfl⟩
theorem d_X2_giveBook_2 : Dc cX2_giveBook 2 3 5 (.invokevirtual 54) := ⟨by decide +kernel, rfl⟩
theorem d_X2_giveBook_5 : Dc cX2_giveBook 5 1 6 (.astore_n 2) := ⟨by decide +kernel, rfl⟩
theorem d_X2_giveBook_6 : Dc cX2_giveBook 6 1 7 (.aload_n 2) := ⟨by decide +kernel, rfl⟩
theorem d_X2_giveBook_7 : Dj cX2_giveBook 7 10 12 .ifnonnull := ⟨5, by decide +kernel, rfl, by decide⟩
theorem d_X2_giveBook_10 : Dc cX2_giveBook 10 1 11 (.iconst (-1)) := ⟨by decide +kernel, rfl⟩
theorem d_X2_giveBook_11 : decode cX2_giveBook 11 = .ok (.ireturn, 1) := by decide +kernel
theorem d_X2_giveBook_12 : Dc cX2_giveBook 12 1 13 (.aload_n 2) := ⟨by decide +kernel, rfl⟩
theorem d_X2_giveBook_13 : Dc cX2_giveBook 13 3 16 (.getfield 58) := ⟨by decide +kernel, rfl⟩
theorem d_X2_giveBook_16 : Dc cX2_giveBook 16 3 19 (.invokevirtual 62) := ⟨by decide +kernel, rfl⟩
theorem d_X2_giveBook_19 : Dc cX2_giveBook 19 1 20 (.istore_n 3) := ⟨by decide +kernel, rfl⟩
theorem d_X2_giveBook_20 : Dc cX2_giveBook 20 1 21 (.aload_n 2) := ⟨by decide +kernel, rfl⟩
theorem d_X2_giveBook_21 : Dc cX2_giveBook 21 1 22 (.aload_n 0) := ⟨by decide +kernel, rfl⟩
theorem d_X2_giveBook_22 : Dc cX2_giveBook 22 3 25 (.getfield 18) := ⟨by decide +kernel, rfl⟩
theorem d_X2_giveBook_25 : Dc cX2_giveBook 25 3 28 (.invokevirtual 68) := ⟨by decide +kernel, rfl⟩
theorem d_X2_giveBook_28 : Dc cX2_giveBook 28 1 29 (.iload_n 3) := ⟨by decide +kernel, rfl⟩
theorem d_X2_giveBook_29 : decode cX2_giveBook 29 = .ok (.ireturn, 1) := by decide +kernel
set_option maxHeartbeats 4000000 in
set_option maxRecDepth 20000 in
theorem c_X2_giveBook {E : Ev} {n : Nat} {M : Mem} {m : Nat} {dy iss fg : Int} {cl : Int64} {C : Nat → HC} (hS : StM E M m dy iss fg cl C) {s : Int → Int} (hR : StR M s dy iss fg C) (hO : Ok s) {p : Int} (h1 : rg p) : MT E yX2_giveBook cX2_giveBook 4 (some .int) 3 0 0 [.ref m, .int (iI p)] n M ((PF (some (.int (iI ((if 0 ≤ p ∧ p ≤ iss - 1 then hcb (C p.toNat) else -1, if 0 ≤ p ∧ p ≤ iss - 1 then stU E M m dy iss fg cl (upC C p.toNat (bokC (C p.toNat) dy)) else M)).1))) n ((if 0 ≤ p ∧ p ≤ iss - 1 then hcb (C p.toNat) else -1, if 0 ≤ p ∧ p ≤ iss - 1 then stU E M m dy iss fg cl (upC C p.toNat (bokC (C p.toNat) dy)) else M)).2)) := by
  refine MT.of (by decide) rfl (Nat.le_of_ble_eq_true rfl) ?_
  intro X g
  have g0 := g.1
  show V E X 0 0 n M 0 [some (.ref m), some (.int (iI p)), none, none] []
  have a0 := hS.h0
  have a1 := hS.h1
  have hm := hO.many
  have hdy := hO.day
  obtain ⟨⟨ed, ei, ef⟩, hRow, hH⟩ := hR
  refine V.eqM (st_id hS).symm ?_
  refine V.al0 g0 d_X2_giveBook_0 ?_
  refine V.il1 g0 d_X2_giveBook_1 ?_
  refine V.callVp g0 (c_X2_holderOf st_M (by omega) h1) ky_X2_holderOf ki_X2_holderOf ks2_X2_holderOf lk_X2_54 (by first | exact st_M.h0 | exact st_M.h1 | assumption) rfl rfl (Nat.le_of_ble_eq_true rfl) ⟨Nat.zero_le _, Nat.zero_le _⟩ rfl rfl (Nat.le_of_ble_eq_true rfl) d_X2_giveBook_2 ?_
  rcases holQ_c m iss p with ⟨hp, he⟩ | ⟨i, hi, hp, he⟩
  · skip
    rw [he, show va_rf none = Value.null from rfl]
    refine V.asN2 g0 d_X2_giveBook_5 ?_
    refine V.alN2 g0 d_X2_giveBook_6 ?_
    refine V.ifnonnullN g0 d_X2_giveBook_7 ?_
    refine V.iconst g0 d_X2_giveBook_10 ?_
    refine V.iret g d_X2_giveBook_11 (Nat.zero_le _) (Nat.zero_le _) ?_
    rw [if_neg hp, if_neg hp]; exact ⟨rfl, rfl, st_id hS⟩
  · skip
    subst hp
    rw [he, show va_rf (some (hbs m i)) = Value.ref (hbs m i) from rfl]
    have hq : 0 ≤ (i : Int) ∧ (i : Int) ≤ iss - 1 := by omega
    have hho := (st_M (E := E) (M := M) (t := m) (dy := dy) (iss := iss) (fg := fg) (cl := cl) (C := C)).ho (i := i) (by omega)
    have hrow := hRow i (by omega)
    obtain ⟨hHR, hVR⟩ := hH i (by omega)
    have hk := hO.at (p := (i : Int)) (by omega) (by omega)
    have g0a := hho.h0
    have g4a := hho.h4
    have hjO := HolR.jOk hHR hk
    have hbO := HolR.bOk hHR hk
    refine V.as2 g0 d_X2_giveBook_5 ?_
    refine V.al2 g0 d_X2_giveBook_6 ?_
    refine V.ifnonnull g0 d_X2_giveBook_7 ?_
    refine V.al2 g0 d_X2_giveBook_12 ?_
    refine V.getf g0 d_X2_giveBook_13 fl_X2_58 (by first | exact st_M.h0 | exact st_M.h1 | assumption) (by rfl) ?_
    refine V.callVp g0 (c_X0_stamps hho.bo hbO) ky_X0_stamps ki_X0_stamps ks2_X0_stamps lk_X2_62 (by first | exact st_M.h0 | exact st_M.h1 | assumption) rfl rfl (Nat.le_of_ble_eq_true rfl) ⟨Nat.zero_le _, Nat.zero_le _⟩ rfl rfl (Nat.le_of_ble_eq_true rfl) d_X2_giveBook_16 ?_
    refine V.is3 g0 d_X2_giveBook_19 ?_
    refine V.al2 g0 d_X2_giveBook_20 ?_
    refine V.al0 g0 d_X2_giveBook_21 ?_
    refine V.getf g0 d_X2_giveBook_22 fl_X2_18 (by first | exact st_M.h0 | exact st_M.h1 | assumption) (by rfl) ?_
    refine V.callVf g0 (c_X1_beginBook hho hrow.1) ky_X1_beginBook ki_X1_beginBook ks2_X1_beginBook lk_X2_68 (by first | exact st_M.h0 | exact st_M.h1 | assumption) rfl rfl (Nat.le_of_ble_eq_true rfl) ⟨Nat.zero_le _, Nat.zero_le _⟩ rfl rfl (Nat.le_of_ble_eq_true rfl) d_X2_giveBook_25 ?_
    refine V.eqM (st_uh (i := i) (c := bokC (C i) dy) (by omega)) ?_
    refine V.il3 g0 d_X2_giveBook_28 ?_
    refine V.iret g d_X2_giveBook_29 (Nat.zero_le _) (Nat.zero_le _) ?_
    rw [if_pos hq, if_pos hq]; exact ⟨rfl, rfl, rfl⟩

theorem d_X2_takeVisa_0 : Dc cX2_takeVisa 0 1 1 (.aload_n 0) := ⟨by decide +kernel, rfl⟩
theorem d_X2_takeVisa_1 : Dc cX2_takeVisa 1 1 2 (.iload_n 1) := ⟨by decide +kernel, rfl⟩
theorem d_X2_takeVisa_2 : Dc cX2_takeVisa 2 3 5 (.invokevirtual 54) := ⟨by decide +kernel, rfl⟩
theorem d_X2_takeVisa_5 : Dc cX2_takeVisa 5 1 6 (.astore_n 3) := ⟨by decide +kernel, rfl⟩
theorem d_X2_takeVisa_6 : Dc cX2_takeVisa 6 1 7 (.aload_n 3) := ⟨by decide +kernel, rfl⟩
theorem d_X2_takeVisa_7 : Dj cX2_takeVisa 7 10 17 .ifnull := ⟨10, by decide +kernel, rfl, by decide⟩
theorem d_X2_takeVisa_10 : Dc cX2_takeVisa 10 1 11 (.iload_n 2) := ⟨by decide +kernel, rfl⟩
theorem d_X2_takeVisa_11 : Dc cX2_takeVisa 11 3 14 (.invokestatic 46) := ⟨by decide +kernel, rfl⟩
theorem d_X2_takeVisa_14 : Dj cX2_takeVisa 14 17 19 (.ifCond .ne) := ⟨5, by decide +kernel, rfl, by decide⟩
theorem d_X2_takeVisa_17 : Dc cX2_takeVisa 17 1 18 (.iconst (-1)) := ⟨by decide +kernel, rfl⟩
theorem d_X2_takeVisa_18 : decode cX2_takeVisa 18 = .ok (.ireturn, 1) := by decide +kernel
theorem d_X2_takeVisa_19 : Dc cX2_takeVisa 19 1 20 (.aload_n 3) := ⟨by decide +kernel, rfl⟩
theorem d_X2_takeVisa_20 : Dc cX2_takeVisa 20 1 21 (.iload_n 2) := ⟨by decide +kernel, rfl⟩
theorem d_X2_takeVisa_21 : Dc cX2_takeVisa 21 3 24 (.invokevirtual 92) := ⟨by decide +kernel, rfl⟩
theorem d_X2_takeVisa_24 : Dc cX2_takeVisa 24 2 26 (.astore 4) := ⟨by decide +kernel, rfl⟩
theorem d_X2_takeVisa_26 : Dc cX2_takeVisa 26 2 28 (.aload 4) := ⟨by decide +kernel, rfl⟩
theorem d_X2_takeVisa_28 : Dj cX2_takeVisa 28 31 34 .ifnonnull := ⟨6, by decide +kernel, rfl, by decide⟩
theorem d_X2_takeVisa_31 : Dc cX2_takeVisa 31 2 33 (.bipush (-5)) := ⟨by decide +kernel, rfl⟩
theorem d_X2_takeVisa_33 : decode cX2_takeVisa 33 = .ok (.ireturn, 1) := by decide +kernel
theorem d_X2_takeVisa_34 : Dc cX2_takeVisa 34 1 35 (.aload_n 3) := ⟨by decide +kernel, rfl⟩
theorem d_X2_takeVisa_35 : Dc cX2_takeVisa 35 1 36 (.iload_n 2) := ⟨by decide +kernel, rfl⟩
theorem d_X2_takeVisa_36 : Dc cX2_takeVisa 36 1 37 .aconst_null := ⟨by decide +kernel, rfl⟩
theorem d_X2_takeVisa_37 : Dc cX2_takeVisa 37 3 40 (.invokevirtual 84) := ⟨by decide +kernel, rfl⟩
theorem d_X2_takeVisa_40 : Dc cX2_takeVisa 40 1 41 (.aload_n 3) := ⟨by decide +kernel, rfl⟩
theorem d_X2_takeVisa_41 : Dc cX2_takeVisa 41 2 43 (.aload 4) := ⟨by decide +kernel, rfl⟩
theorem d_X2_takeVisa_43 : Dc cX2_takeVisa 43 1 44 (.aload_n 0) := ⟨by decide +kernel, rfl⟩
theorem d_X2_takeVisa_44 : Dc cX2_takeVisa 44 3 47 (.getfield 18) := ⟨by decide +kernel, rfl⟩
theorem d_X2_takeVisa_47 : Dc cX2_takeVisa 47 3 50 (.invokevirtual 88) := ⟨by decide +kernel, rfl⟩
theorem d_X2_takeVisa_50 : decode cX2_takeVisa 50 = .ok (.ireturn, 1) := by decide +kernel
set_option maxHeartbeats 4000000 in
set_option maxRecDepth 20000 in
theorem c_X2_takeVisa {E : Ev} {n : Nat} {M : Mem} {m : Nat} {dy iss fg : Int} {cl : Int64} {C : Nat → HC} (hS : StM E M m dy iss fg cl C) {s : Int → Int} (hR : StR M s dy iss fg C) (hO : Ok s) (hB : ∀ i, i < 6 → ∀ k u, hcv (C i) k = some u → u < m ∨ m + 62 ≤ u) {p c : Int} (h1 : rg p) (h2 : rg c) : MT E yX2_takeVisa cX2_takeVisa 5 (some .int) 3 0 0 [.ref m, .int (iI p), .int (iI c)] n M ((PF (some (.int (iI ((if ¬ ((0 ≤ p ∧ p ≤ iss - 1) ∧ (0 ≤ c ∧ c ≤ 5)) then -1 else if ¬ hasV s p c then -5 else usedOn s p c (s 618), if ((0 ≤ p ∧ p ≤ iss - 1) ∧ (0 ≤ c ∧ c ≤ 5)) ∧ hasV s p c then stU E M m dy iss fg cl (upC C p.toNat (visC (C p.toNat) c none)) else M)).1))) n ((if ¬ ((0 ≤ p ∧ p ≤ iss - 1) ∧ (0 ≤ c ∧ c ≤ 5)) then -1 else if ¬ hasV s p c then -5 else usedOn s p c (s 618), if ((0 ≤ p ∧ p ≤ iss - 1) ∧ (0 ≤ c ∧ c ≤ 5)) ∧ hasV s p c then stU E M m dy iss fg cl (upC C p.toNat (visC (C p.toNat) c none)) else M)).2)) := by
  refine MT.of (by decide) rfl (Nat.le_of_ble_eq_true rfl) ?_
  intro X g
  have g0 := g.1
  show V E X 0 0 n M 0 [some (.ref m), some (.int (iI p)), some (.int (iI c)), none, none] []
  have a0 := hS.h0
  have a1 := hS.h1
  have hm := hO.many
  have hdy := hO.day
  obtain ⟨⟨ed, ei, ef⟩, hRow, hH⟩ := hR
  refine V.eqM (st_id hS).symm ?_
  refine V.al0 g0 d_X2_takeVisa_0 ?_
  refine V.il1 g0 d_X2_takeVisa_1 ?_
  refine V.callVp g0 (c_X2_holderOf st_M (by omega) h1) ky_X2_holderOf ki_X2_holderOf ks2_X2_holderOf lk_X2_54 (by first | exact st_M.h0 | exact st_M.h1 | exact hho.h0 | assumption) rfl rfl (Nat.le_of_ble_eq_true rfl) ⟨Nat.zero_le _, Nat.zero_le _⟩ rfl rfl (Nat.le_of_ble_eq_true rfl) d_X2_takeVisa_2 ?_
  rcases holQ_c m iss p with ⟨hp, he⟩ | ⟨i, hi, hp, he⟩
  · skip
    rw [he, show va_rf none = Value.null from rfl]
    refine V.asN3 g0 d_X2_takeVisa_5 ?_
    refine V.alN3 g0 d_X2_takeVisa_6 ?_
    refine V.ifnullN g0 d_X2_takeVisa_7 ?_
    refine V.iconst g0 d_X2_takeVisa_17 ?_
    refine V.iret g d_X2_takeVisa_18 (Nat.zero_le _) (Nat.zero_le _) ?_
    have ha : ¬ ((0 ≤ p ∧ p ≤ iss - 1) ∧ (0 ≤ c ∧ c ≤ 5)) := fun q => hp q.1
    rw [if_pos ha, if_neg (fun q => ha q.1)]; exact ⟨rfl, rfl, st_id hS⟩
  · skip
    subst hp
    rw [he, show va_rf (some (hbs m i)) = Value.ref (hbs m i) from rfl]
    have hq : 0 ≤ (i : Int) ∧ (i : Int) ≤ iss - 1 := by omega
    have hho := (st_M (E := E) (M := M) (t := m) (dy := dy) (iss := iss) (fg := fg) (cl := cl) (C := C)).ho (i := i) (by omega)
    have hrow := hRow i (by omega)
    obtain ⟨hHR, hVR⟩ := hH i (by omega)
    have hk := hO.at (p := (i : Int)) (by omega) (by omega)
    have g0a := hho.h0
    have g4a := hho.h4
    have hjO := HolR.jOk hHR hk
    have hbO := HolR.bOk hHR hk
    refine V.as3 g0 d_X2_takeVisa_5 ?_
    refine V.al3 g0 d_X2_takeVisa_6 ?_
    refine V.ifnull g0 d_X2_takeVisa_7 ?_
    refine V.il2 g0 d_X2_takeVisa_10 ?_
    refine V.callSNp g0 (c_X6_isCountry h2) ky_X6_isCountry ks_X6_isCountry lk_X2_46 (Nat.le_of_ble_eq_true rfl) ⟨Nat.zero_le _, Nat.zero_le _⟩ rfl rfl (Nat.le_of_ble_eq_true rfl) d_X2_takeVisa_11 ?_
    refine V.ifneB g0 d_X2_takeVisa_14 (fun c_14 => ?_) (fun c_14 => ?_)
    · skip
      refine V.al3 g0 d_X2_takeVisa_19 ?_
      refine V.il2 g0 d_X2_takeVisa_20 ?_
      refine V.callVp g0 (c_X1_visaFor hho (by omega)) ky_X1_visaFor ki_X1_visaFor ks2_X1_visaFor lk_X2_92 (by first | exact st_M.h0 | exact st_M.h1 | exact hho.h0 | assumption) rfl rfl (Nat.le_of_ble_eq_true rfl) ⟨Nat.zero_le _, Nat.zero_le _⟩ rfl rfl (Nat.le_of_ble_eq_true rfl) d_X2_takeVisa_21 ?_
      have hvv := hVR c (by omega) (by omega)
      have hvb := hk.vis (c := c) (by omega) (by omega)
      have hA : ((0 ≤ (i : Int) ∧ (i : Int) ≤ iss - 1) ∧ (0 ≤ c ∧ c ≤ 5)) := ⟨hq, c_14⟩
      rcases hvv with ⟨hev, hn⟩ | ⟨a, hev, ha, hn⟩
      · skip
        rw [show (C i).2.2.2.2.2.2.2.2.2.2 c = none from hev, show va_rf none = Value.null from rfl]
        refine V.asN4 g0 d_X2_takeVisa_24 ?_
        refine V.alN4 g0 d_X2_takeVisa_26 ?_
        refine V.ifnonnullN g0 d_X2_takeVisa_28 ?_
        refine V.bipush g0 d_X2_takeVisa_31 (by decide) ?_
        refine V.iret g d_X2_takeVisa_33 (Nat.zero_le _) (Nat.zero_le _) ?_
        rw [if_neg (fun q => q hA), if_pos hn, if_neg (fun q => hn q.2)]; exact ⟨rfl, rfl, st_id hS⟩
      · skip
        rw [show (C i).2.2.2.2.2.2.2.2.2.2 c = some a from hev, show va_rf (some a) = Value.ref a from rfl]
        have hao := hB i (by omega) c a hev
        refine V.as4 g0 d_X2_takeVisa_24 ?_
        refine V.al4 g0 d_X2_takeVisa_26 ?_
        refine V.ifnonnull g0 d_X2_takeVisa_28 ?_
        refine V.al3 g0 d_X2_takeVisa_34 ?_
        refine V.il2 g0 d_X2_takeVisa_35 ?_
        refine V.anull g0 d_X2_takeVisa_36 ?_
        refine V.callVf g0 (c_X1_setVisaN hho (c := c) (by omega)) ky_X1_setVisa ki_X1_setVisa ks2_X1_setVisa lk_X2_84 (by first | exact st_M.h0 | exact st_M.h1 | exact hho.h0 | assumption) rfl rfl (Nat.le_of_ble_eq_true rfl) ⟨Nat.zero_le _, Nat.zero_le _⟩ rfl rfl (Nat.le_of_ble_eq_true rfl) d_X2_takeVisa_37 ?_
        refine V.eqM (st_uh (i := i) (c := visC (C i) c none) (by omega)) ?_
        have hh2 := (st_M (E := E) (M := M) (t := m) (dy := dy) (iss := iss) (fg := fg) (cl := cl) (C := upC C i (visC (C i) c none))).ho (i := i) (by omega)
        rw [show upC C i (visC (C i) c none) i = visC (C i) c none from upC_s] at hh2
        have g0b := hh2.h0
        have ha2 : stU E M m dy iss fg cl (upC C i (visC (C i) c none)) a = viC c (vOf s (i : Int) c 0) (vOf s (i : Int) c 1) (vOf s (i : Int) c 2) := (ov_n hao).trans ha
        refine V.al3 g0 d_X2_takeVisa_40 ?_
        refine V.al4 g0 d_X2_takeVisa_41 ?_
        refine V.al0 g0 d_X2_takeVisa_43 ?_
        refine V.getf g0 d_X2_takeVisa_44 fl_X2_18 (by first | exact st_M.h0 | exact st_M.h1 | exact hho.h0 | assumption) (by rfl) ?_
        refine V.callVp g0 (c_X1_usedDays hh2 hHR hk ha2 c_14 hvb.1 hvb.2.1 (by omega)) ky_X1_usedDays ki_X1_usedDays ks2_X1_usedDays lk_X2_88 g0b rfl rfl (Nat.le_of_ble_eq_true rfl) ⟨Nat.zero_le _, Nat.zero_le _⟩ rfl rfl (Nat.le_of_ble_eq_true rfl) d_X2_takeVisa_47 ?_
        refine V.iret g d_X2_takeVisa_50 (Nat.zero_le _) (Nat.zero_le _) ?_
        rw [if_neg (fun q => q hA), if_neg (fun q => q hn), if_pos ⟨hA, hn⟩, ← ed]; exact ⟨rfl, rfl, rfl⟩
    · skip
      refine V.iconst g0 d_X2_takeVisa_17 ?_
      refine V.iret g d_X2_takeVisa_18 (Nat.zero_le _) (Nat.zero_le _) ?_
      have ha : ¬ ((0 ≤ (i : Int) ∧ (i : Int) ≤ iss - 1) ∧ (0 ≤ c ∧ c ≤ 5)) := fun q => c_14 q.2
      rw [if_pos ha, if_neg (fun q => ha q.1)]; exact ⟨rfl, rfl, st_id hS⟩

theorem d_X2_endDay_0 : Dc cX2_endDay 0 1 1 (.iconst 0) := ⟨by decide +kernel, rfl⟩
theorem d_X2_endDay_1 : Dc cX2_endDay 1 1 2 (.istore_n 1) := ⟨by decide +kernel, rfl⟩
theorem d_X2_endDay_2 : Dc cX2_endDay 2 1 3 (.iconst 0) := ⟨by decide +kernel, rfl⟩
theorem d_X2_endDay_3 : Dc cX2_endDay 3 1 4 (.istore_n 2) := ⟨by decide +kernel, rfl⟩
theorem d_X2_endDay_4 : Dc cX2_endDay 4 1 5 (.iload_n 2) := ⟨by decide +kernel, rfl⟩
theorem d_X2_endDay_5 : Dc cX2_endDay 5 1 6 (.aload_n 0) := ⟨by decide +kernel, rfl⟩
theorem d_X2_endDay_6 : Dc cX2_endDay 6 3 9 (.getfield 22) := ⟨by decide +kernel, rfl⟩
theorem d_X2_endDay_9 : Dj cX2_endDay 9 12 53 (.if_icmp .ge) := ⟨44, by decide +kernel, rfl, by decide⟩
theorem d_X2_endDay_12 : Dc cX2_endDay 12 1 13 (.aload_n 0) := ⟨by decide +kernel, rfl⟩
theorem d_X2_endDay_13 : Dc cX2_endDay 13 3 16 (.getfield 11) := ⟨by decide +kernel, rfl⟩
theorem d_X2_endDay_16 : Dc cX2_endDay 16 1 17 (.iload_n 2) := ⟨by decide +kernel, rfl⟩
theorem d_X2_endDay_17 : Dc cX2_endDay 17 1 18 .aaload := ⟨by decide +kernel, rfl⟩
theorem d_X2_endDay_18 : Dc cX2_endDay 18 1 19 (.astore_n 3) := ⟨by decide +kernel, rfl⟩
theorem d_X2_endDay_19 : Dc cX2_endDay 19 1 20 (.aload_n 3) := ⟨by decide +kernel, rfl⟩
theorem d_X2_endDay_20 : Dc cX2_endDay 20 1 21 (.aload_n 3) := ⟨by decide +kernel, rfl⟩
theorem d_X2_endDay_21 : Dc cX2_endDay 21 3 24 (.invokevirtual 112) := ⟨by decide +kernel, rfl⟩
theorem d_X2_endDay_24 : Dc cX2_endDay 24 1 25 (.aload_n 0) := ⟨by decide +kernel, rfl⟩
theorem d_X2_endDay_25 : Dc cX2_endDay 25 3 28 (.getfield 18) := ⟨by decide +kernel, rfl⟩
theorem d_X2_endDay_28 : Dc cX2_endDay 28 3 31 (.invokevirtual 133) := ⟨by decide +kernel, rfl⟩
theorem d_X2_endDay_31 : Dj cX2_endDay 31 34 47 (.ifCond .ne) := ⟨16, by decide +kernel, rfl, by decide⟩
theorem d_X2_endDay_34 : Dc cX2_endDay 34 1 35 (.aload_n 3) := ⟨by decide +kernel, rfl⟩
theorem d_X2_endDay_35 : Dc cX2_endDay 35 1 36 .dup := ⟨by decide +kernel, rfl⟩
theorem d_X2_endDay_36 : Dc cX2_endDay 36 3 39 (.getfield 136) := ⟨by decide +kernel, rfl⟩
theorem d_X2_endDay_39 : Dc cX2_endDay 39 1 40 (.iconst 1) := ⟨by decide +kernel, rfl⟩
theorem d_X2_endDay_40 : Dc cX2_endDay 40 1 41 .iadd := ⟨by decide +kernel, rfl⟩
theorem d_X2_endDay_41 : Dc cX2_endDay 41 3 44 (.putfield 136) := ⟨by decide +kernel, rfl⟩
theorem d_X2_endDay_44 : Dc cX2_endDay 44 3 47 (.iinc 1 1) := ⟨by decide +kernel, rfl⟩
theorem d_X2_endDay_47 : Dc cX2_endDay 47 3 50 (.iinc 2 1) := ⟨by decide +kernel, rfl⟩
theorem d_X2_endDay_50 : Dj cX2_endDay 50 53 4 .goto := ⟨(-46), by decide +kernel, rfl, by decide⟩
theorem d_X2_endDay_53 : Dc cX2_endDay 53 1 54 (.aload_n 0) := ⟨by decide +kernel, rfl⟩
theorem d_X2_endDay_54 : Dc cX2_endDay 54 1 55 .dup := ⟨by decide +kernel, rfl⟩
theorem d_X2_endDay_55 : Dc cX2_endDay 55 3 58 (.getfield 18) := ⟨by decide +kernel, rfl⟩
theorem d_X2_endDay_58 : Dc cX2_endDay 58 1 59 (.iconst 1) := ⟨by decide +kernel, rfl⟩
theorem d_X2_endDay_59 : Dc cX2_endDay 59 1 60 .iadd := ⟨by decide +kernel, rfl⟩
theorem d_X2_endDay_60 : Dc cX2_endDay 60 3 63 (.putfield 18) := ⟨by decide +kernel, rfl⟩
theorem d_X2_endDay_63 : Dc cX2_endDay 63 1 64 (.iload_n 1) := ⟨by decide +kernel, rfl⟩
theorem d_X2_endDay_64 : decode cX2_endDay 64 = .ok (.ireturn, 1) := by decide +kernel
set_option maxHeartbeats 4000000 in
set_option maxRecDepth 20000 in
theorem c_X2_endDay {E : Ev} {n : Nat} {M : Mem} {m : Nat} {dy iss fg : Int} {cl : Int64} {C : Nat → HC} (hS : StM E M m dy iss fg cl C) {s : Int → Int} (hR : StR M s dy iss fg C) (hO : Ok s) (hB : ∀ i, i < 6 → ∀ k u, hcv (C i) k = some u → u < m ∨ m + 62 ≤ u) : MT E yX2_endDay cX2_endDay 4 (some .int) 4 0 0 [.ref m] n M ((PF (some (.int (iI (sumI (fun i => bI (¬ mayBe s i (s (103 * i + 2)) (s 618))) iss.toNat)))) n (stU E M m (dy + 1) iss fg cl (ovC s C iss.toNat)))) := by
  refine MT.of (by decide) rfl (Nat.le_of_ble_eq_true rfl) ?_
  intro X g
  have g0 := g.1
  show V E X 0 0 n M 0 [some (.ref m), none, none, none] []
  have a0 := hS.h0
  have a1 := hS.h1
  have hm := hO.many
  have hdy := hO.day
  obtain ⟨⟨ed, ei, ef⟩, hRow, hH⟩ := hR
  refine V.eqM (st_id hS).symm ?_
  refine V.iconst g0 d_X2_endDay_0 ?_
  refine V.is1 g0 d_X2_endDay_1 ?_
  refine V.iconst g0 d_X2_endDay_2 ?_
  refine V.is2 g0 d_X2_endDay_3 ?_
  have LP : ∀ (f i : Nat) (z : Int), i + f = iss.toNat → z = sumI (fun i => bI (¬ mayBe s i (s (103 * i + 2)) (s 618))) i → V E X 0 0 n (stU E M m dy iss fg cl (ovC s C i)) 4 [some (.ref m), some (.int (iI z)), some (.int (iI (i : Int))), none] [] := by
    intro f
    induction f using Nat.strongRecOn with
    | _ f ih =>
    intro i z hf hz
    refine V.il2 g0 d_X2_endDay_4 ?_
    refine V.al0 g0 d_X2_endDay_5 ?_
    refine V.getf g0 d_X2_endDay_6 fl_X2_22 (by first | exact st_M.h0 | exact st_M.h1 | assumption) (by rfl) ?_
    refine V.icmpge g0 d_X2_endDay_9 (by omega) (fun c_9 => ?_) (fun c_9 => ?_)
    · skip
      refine V.al0 g0 d_X2_endDay_53 ?_
      refine V.dup g0 d_X2_endDay_54 rfl ?_
      refine V.getf g0 d_X2_endDay_55 fl_X2_18 (by first | exact st_M.h0 | exact st_M.h1 | assumption) (by rfl) ?_
      refine V.iconst g0 d_X2_endDay_58 ?_
      refine V.iadd g0 d_X2_endDay_59 ?_
      refine V.putf g0 d_X2_endDay_60 fp_X2_18 (by first | exact st_M.h0 | exact st_M.h1 | assumption) (Nat.le_of_ble_eq_true rfl) rfl rfl ?_
      first | refine V.eqM st_u0 ?_
      refine V.il1 g0 d_X2_endDay_63 ?_
      refine V.iret g d_X2_endDay_64 (Nat.zero_le _) (Nat.zero_le _) ?_
      rw [hz, show iss.toNat = i by omega]; exact ⟨rfl, rfl, rfl⟩
    · skip
      obtain ⟨hHR, hVR⟩ := hH i (by omega)
      have hk := hO.at (p := (i : Int)) (by omega) (by omega)
      have hho := (st_M (E := E) (M := M) (t := m) (dy := dy) (iss := iss) (fg := fg) (cl := cl) (C := ovC s C i)).ho (i := i) (by omega)
      rw [ovC_i] at hho
      have g0a := hho.h0
      have hV2 : VisR (stU E M m dy iss fg cl (ovC s C i)) s (i : Int) (hcv (C i)) := VisR.fr hVR (fun k u hu => ov_n (hB i (by omega) k u hu))
      refine V.al0 g0 d_X2_endDay_12 ?_
      refine V.getf g0 d_X2_endDay_13 fl_X2_11 (by first | exact st_M.h0 | exact st_M.h1 | assumption) (by rfl) ?_
      refine V.il2 g0 d_X2_endDay_16 ?_
      refine V.aald g0 d_X2_endDay_17 (by first | exact st_M.h0 | exact st_M.h1 | assumption) rfl (by omega) (by decide) ?_
      rw [show hsF m (i : Int) = some (hbs m i) from rfl, show va_rf (some (hbs m i)) = Value.ref (hbs m i) from rfl]
      refine V.as3 g0 d_X2_endDay_18 ?_
      refine V.al3 g0 d_X2_endDay_19 ?_
      refine V.al3 g0 d_X2_endDay_20 ?_
      refine V.callVp g0 (c_X1_placeS hho hHR hk) ky_X1_place ki_X1_place ks2_X1_place lk_X2_112 (by first | exact st_M.h0 | exact st_M.h1 | assumption) rfl rfl (Nat.le_of_ble_eq_true rfl) ⟨Nat.zero_le _, Nat.zero_le _⟩ rfl rfl (Nat.le_of_ble_eq_true rfl) d_X2_endDay_21 ?_
      refine V.al0 g0 d_X2_endDay_24 ?_
      refine V.getf g0 d_X2_endDay_25 fl_X2_18 (by first | exact st_M.h0 | exact st_M.h1 | assumption) (by rfl) ?_
      refine V.callVp g0 (c_X1_mayBeIn (t := dy) (c := s (103 * (i : Int) + 2)) hho hHR hk hV2 (by have := hk.whr; omega) (by omega)) ky_X1_mayBeIn ki_X1_mayBeIn ks2_X1_mayBeIn lk_X2_133 (by first | exact st_M.h0 | exact st_M.h1 | assumption) rfl rfl (Nat.le_of_ble_eq_true rfl) ⟨Nat.zero_le _, Nat.zero_le _⟩ rfl rfl (Nat.le_of_ble_eq_true rfl) d_X2_endDay_28 ?_
      rw [show bI (mayBe s (i : Int) (s (103 * (i : Int) + 2)) dy) = bI (mayBe s (i : Int) (s (103 * (i : Int) + 2)) (s 618)) by rw [ed]]
      refine V.ifneB g0 d_X2_endDay_31 (fun c_31 => ?_) (fun c_31 => ?_)
      · skip
        refine V.eqM (show stU E M m dy iss fg cl (ovC s C i) = stU E M m dy iss fg cl (ovC s C (i + 1)) by rw [ovC_t (h := c_31)]) ?_
        refine V.inc2 g0 d_X2_endDay_47 ?_
        refine V.goto g0 d_X2_endDay_50 ?_
        exact V.weak2 (ih (f - 1) (by omega) (i + 1) _ (by omega) (by rw [hz, sumI_s, bI_f (show ¬ ¬ mayBe s (i : Int) (s (103 * (i : Int) + 2)) (s 618) from fun q => q c_31), Int.add_zero])) (lcLe_s (lcLe_s (lcLe_s (lcLe_f lcLe_n))))
      · skip
        refine V.al3 g0 d_X2_endDay_34 ?_
        refine V.dup g0 d_X2_endDay_35 rfl ?_
        refine V.getf g0 d_X2_endDay_36 fl_X2_136 g0a (by rfl) ?_
        refine V.iconst g0 d_X2_endDay_39 ?_
        refine V.iadd g0 d_X2_endDay_40 ?_
        refine V.putf g0 d_X2_endDay_41 fp_X2_136 g0a (Nat.le_of_ble_eq_true rfl) rfl rfl ?_
        refine V.eqM ((ho_up1 hho).trans (st_uh (i := i) (c := osC (C i)) (by omega))) ?_
        rw [← ovC_f (h := c_31)]
        refine V.inc1 g0 d_X2_endDay_44 ?_
        refine V.inc2 g0 d_X2_endDay_47 ?_
        refine V.goto g0 d_X2_endDay_50 ?_
        exact V.weak2 (ih (f - 1) (by omega) (i + 1) _ (by omega) (by rw [hz, sumI_s, bI_t (show ¬ mayBe s (i : Int) (s (103 * (i : Int) + 2)) (s 618) from c_31)])) (lcLe_s (lcLe_s (lcLe_s (lcLe_f lcLe_n))))
  exact LP iss.toNat 0 0 (by omega) rfl
