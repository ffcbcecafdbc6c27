theorem d_X7_isNext_0 : Dc cX7_isNext 0 1 1 (.aload_n 0) := ⟨by decide +kernel, rfl⟩
theorem d_X7_isNext_1 : Dc cX7_isNext 1 3 4 (.getfield 150) := ⟨by decide +kernel, rfl⟩
theorem d_X7_isNext_4 : Dj cX7_isNext 4 7 39 (.ifCond .ne) := ⟨35, by decide +kernel, rfl, by decide⟩
theorem d_X7_isNext_7 : Dc cX7_isNext 7 1 8 (.aload_n 0) := ⟨by decide +kernel, rfl⟩
theorem d_X7_isNext_8 : Dc cX7_isNext 8 3 11 (.getfield 154) := ⟨by decide +kernel, rfl⟩
theorem d_X7_isNext_11 : Dc cX7_isNext 11 1 12 (.aload_n 0) := ⟨by decide +kernel, rfl⟩
theorem d_X7_isNext_12 : Dc cX7_isNext 12 3 15 (.getfield 147) := ⟨by decide +kernel, rfl⟩
theorem d_X7_isNext_15 : Dj cX7_isNext 15 18 39 (.if_icmp .ge) := ⟨24, by decide +kernel, rfl, by decide⟩
theorem d_X7_isNext_18 : Dc cX7_isNext 18 1 19 (.aload_n 0) := ⟨by decide +kernel, rfl⟩
theorem d_X7_isNext_19 : Dc cX7_isNext 19 3 22 (.getfield 22) := ⟨by decide +kernel, rfl⟩
theorem d_X7_isNext_22 : Dc cX7_isNext 22 1 23 (.aload_n 0) := ⟨by decide +kernel, rfl⟩
theorem d_X7_isNext_23 : Dc cX7_isNext 23 3 26 (.getfield 154) := ⟨by decide +kernel, rfl⟩
theorem d_X7_isNext_26 : Dc cX7_isNext 26 1 27 .iaload := ⟨by decide +kernel, rfl⟩
theorem d_X7_isNext_27 : Dc cX7_isNext 27 1 28 (.iload_n 1) := ⟨by decide +kernel, rfl⟩
theorem d_X7_isNext_28 : Dc cX7_isNext 28 1 29 (.iload_n 2) := ⟨by decide +kernel, rfl⟩
theorem d_X7_isNext_29 : Dc cX7_isNext 29 3 32 (.invokestatic 32) := ⟨by decide +kernel, rfl⟩
theorem d_X7_isNext_32 : Dj cX7_isNext 32 35 39 (.ifCond .eq) := ⟨7, by decide +kernel, rfl, by decide⟩
theorem d_X7_isNext_35 : Dc cX7_isNext 35 1 36 (.iconst 1) := ⟨by decide +kernel, rfl⟩
theorem d_X7_isNext_36 : Dj cX7_isNext 36 39 40 .goto := ⟨4, by decide +kernel, rfl, by decide⟩
theorem d_X7_isNext_39 : Dc cX7_isNext 39 1 40 (.iconst 0) := ⟨by decide +kernel, rfl⟩
theorem d_X7_isNext_40 : decode cX7_isNext 40 = .ok (.ireturn, 1) := by decide +kernel
set_option maxHeartbeats 4000000 in
set_option maxRecDepth 20000 in
theorem c_X7_isNext {E : Ev} {n : Nat} {M : Mem} {m : Nat} {s a sn tx : Int → Int} {H : Int → Int → Int} {kn kp ln st se sp wr le f1 f2 f3 f4 f5 sb : Int} (ht : txB tx ln) (hs : 0 ≤ sp ∧ sp ≤ ln) (hw : wr = 0 ∨ wr = 1) {lo hi : Int} (h1 : rg lo) (h2 : rg hi) : MT E yX7_isNext cX7_isNext 3 (some .boolean) 1 0 0 [.ref m, .int (iI lo), .int (iI hi)] n (md E M m s a (hOf H) sn tx kn kp ln st se sp wr le f1 f2 f3 f4 f5 sb) (PF (some (.int (iI (bI (nxt tx ln sp wr lo hi))))) n (md E M m s a (hOf H) sn tx kn kp ln st se sp wr le f1 f2 f3 f4 f5 sb)) := by
  refine MT.of (by decide) rfl (Nat.le_of_ble_eq_true rfl) ?_
  intro X g
  have g0 := g.1
  show V E X 0 0 n (md E M m s a (hOf H) sn tx kn kp ln st se sp wr le f1 f2 f3 f4 f5 sb) 0 [some (.ref m), some (.int (iI lo)), some (.int (iI hi))] []
  have htx := ht.2
  have hl := ht.1
  refine V.al0 g0 d_X7_isNext_0 ?_
  refine V.getf g0 d_X7_isNext_1 fl_X7_150 (by first | exact md_0 | exact md_1 | exact md_2 | exact md_3 | exact md_4 | exact md_5) (by rfl) ?_
  refine V.ifne g0 d_X7_isNext_4 (by omega) (fun c_4 => ?_) (fun c_4 => ?_)
  · skip
    have hz : ¬ nxt tx ln sp wr lo hi := fun q => c_4 q.1
    refine V.iconst g0 d_X7_isNext_39 ?_
    refine V.zret g d_X7_isNext_40 (by first | exact Or.inl rfl | exact Or.inr rfl | exact bI_01 _) (Nat.zero_le _) (Nat.zero_le _) ⟨congrArg (fun z => some (Value.int (iI z))) ?_, rfl, rfl⟩
    exact (bI_f hz).symm
  · skip
    refine V.al0 g0 d_X7_isNext_7 ?_
    refine V.getf g0 d_X7_isNext_8 fl_X7_154 (by first | exact md_0 | exact md_1 | exact md_2 | exact md_3 | exact md_4 | exact md_5) (by rfl) ?_
    refine V.al0 g0 d_X7_isNext_11 ?_
    refine V.getf g0 d_X7_isNext_12 fl_X7_147 (by first | exact md_0 | exact md_1 | exact md_2 | exact md_3 | exact md_4 | exact md_5) (by rfl) ?_
    refine V.icmpge g0 d_X7_isNext_15 (by omega) (fun c_15 => ?_) (fun c_15 => ?_)
    · skip
      have hz : ¬ nxt tx ln sp wr lo hi := by intro q; have := q.2.1; omega
      refine V.iconst g0 d_X7_isNext_39 ?_
      refine V.zret g d_X7_isNext_40 (by first | exact Or.inl rfl | exact Or.inr rfl | exact bI_01 _) (Nat.zero_le _) (Nat.zero_le _) ⟨congrArg (fun z => some (Value.int (iI z))) ?_, rfl, rfl⟩
      exact (bI_f hz).symm
    · skip
      have hb := htx sp hs.1 (by omega)
      refine V.al0 g0 d_X7_isNext_18 ?_
      refine V.getf g0 d_X7_isNext_19 fl_X7_22 (by first | exact md_0 | exact md_1 | exact md_2 | exact md_3 | exact md_4 | exact md_5) (by rfl) ?_
      refine V.al0 g0 d_X7_isNext_22 ?_
      refine V.getf g0 d_X7_isNext_23 fl_X7_154 (by first | exact md_0 | exact md_1 | exact md_2 | exact md_3 | exact md_4 | exact md_5) (by rfl) ?_
      refine V.iald g0 d_X7_isNext_26 (by first | exact md_0 | exact md_1 | exact md_2 | exact md_3 | exact md_4 | exact md_5) (by omega) (by decide) ?_
      refine V.il1 g0 d_X7_isNext_27 ?_
      refine V.il2 g0 d_X7_isNext_28 ?_
      refine V.callSp g0 (c_X7_in (by constructor <;> omega) h1 h2) ky_X7_in ks_X7_in lk_X7_32 (Nat.le_of_ble_eq_true rfl) ⟨Nat.zero_le _, Nat.zero_le _⟩ rfl rfl (Nat.le_of_ble_eq_true rfl) d_X7_isNext_29 ?_
      refine V.ifeqB g0 d_X7_isNext_32 (fun c_32 => ?_) (fun c_32 => ?_)
      · skip
        have hz : ¬ nxt tx ln sp wr lo hi := fun q => c_32 q.2.2
        refine V.iconst g0 d_X7_isNext_39 ?_
        refine V.zret g d_X7_isNext_40 (by first | exact Or.inl rfl | exact Or.inr rfl | exact bI_01 _) (Nat.zero_le _) (Nat.zero_le _) ⟨congrArg (fun z => some (Value.int (iI z))) ?_, rfl, rfl⟩
        exact (bI_f hz).symm
      · skip
        have hz : nxt tx ln sp wr lo hi := ⟨by omega, by omega, c_32⟩
        refine V.iconst g0 d_X7_isNext_35 ?_
        refine V.goto g0 d_X7_isNext_36 ?_
        refine V.zret g d_X7_isNext_40 (by first | exact Or.inl rfl | exact Or.inr rfl | exact bI_01 _) (Nat.zero_le _) (Nat.zero_le _) ⟨congrArg (fun z => some (Value.int (iI z))) ?_, rfl, rfl⟩
        exact (bI_t hz).symm

theorem d_X7_takes_0 : Dc cX7_takes 0 1 1 (.aload_n 0) := ⟨by decide +kernel, rfl⟩
theorem d_X7_takes_1 : Dc cX7_takes 1 1 2 (.iload_n 1) := ⟨by decide +kernel, rfl⟩
theorem d_X7_takes_2 : Dc cX7_takes 2 1 3 (.iload_n 2) := ⟨by decide +kernel, rfl⟩
theorem d_X7_takes_3 : Dc cX7_takes 3 3 6 (.invokevirtual 157) := ⟨by decide +kernel, rfl⟩
theorem d_X7_takes_6 : Dc cX7_takes 6 1 7 (.istore_n 3) := ⟨by decide +kernel, rfl⟩
theorem d_X7_takes_7 : Dc cX7_takes 7 1 8 (.iload_n 3) := ⟨by decide +kernel, rfl⟩
theorem d_X7_takes_8 : Dj cX7_takes 8 11 25 (.ifCond .eq) := ⟨17, by decide +kernel, rfl, by decide⟩
theorem d_X7_takes_11 : Dc cX7_takes 11 1 12 (.aload_n 0) := ⟨by decide +kernel, rfl⟩
theorem d_X7_takes_12 : Dc cX7_takes 12 3 15 (.getfield 22) := ⟨by decide +kernel, rfl⟩
theorem d_X7_takes_15 : Dc cX7_takes 15 1 16 (.aload_n 0) := ⟨by decide +kernel, rfl⟩
theorem d_X7_takes_16 : Dc cX7_takes 16 3 19 (.getfield 154) := ⟨by decide +kernel, rfl⟩
theorem d_X7_takes_19 : Dc cX7_takes 19 1 20 .iaload := ⟨by decide +kernel, rfl⟩
theorem d_X7_takes_20 : Dc cX7_takes 20 1 21 (.iload_n 1) := ⟨by decide +kernel, rfl⟩
theorem d_X7_takes_21 : Dc cX7_takes 21 1 22 .isub := ⟨by decide +kernel, rfl⟩
theorem d_X7_takes_22 : Dj cX7_takes 22 25 26 .goto := ⟨4, by decide +kernel, rfl, by decide⟩
theorem d_X7_takes_25 : Dc cX7_takes 25 1 26 (.iconst 0) := ⟨by decide +kernel, rfl⟩
theorem d_X7_takes_26 : Dc cX7_takes 26 2 28 (.istore 4) := ⟨by decide +kernel, rfl⟩
theorem d_X7_takes_28 : Dc cX7_takes 28 1 29 (.aload_n 0) := ⟨by decide +kernel, rfl⟩
theorem d_X7_takes_29 : Dc cX7_takes 29 1 30 .dup := ⟨by decide +kernel, rfl⟩
theorem d_X7_takes_30 : Dc cX7_takes 30 3 33 (.getfield 154) := ⟨by decide +kernel, rfl⟩
theorem d_X7_takes_33 : Dc cX7_takes 33 1 34 (.iload_n 3) := ⟨by decide +kernel, rfl⟩
theorem d_X7_takes_34 : Dj cX7_takes 34 37 41 (.ifCond .eq) := ⟨7, by decide +kernel, rfl, by decide⟩
theorem d_X7_takes_37 : Dc cX7_takes 37 1 38 (.iconst 1) := ⟨by decide +kernel, rfl⟩
theorem d_X7_takes_38 : Dj cX7_takes 38 41 42 .goto := ⟨4, by decide +kernel, rfl, by decide⟩
theorem d_X7_takes_41 : Dc cX7_takes 41 1 42 (.iconst 0) := ⟨by decide +kernel, rfl⟩
theorem d_X7_takes_42 : Dc cX7_takes 42 1 43 .iadd := ⟨by decide +kernel, rfl⟩
theorem d_X7_takes_43 : Dc cX7_takes 43 3 46 (.putfield 154) := ⟨by decide +kernel, rfl⟩
theorem d_X7_takes_46 : Dc cX7_takes 46 1 47 (.aload_n 0) := ⟨by decide +kernel, rfl⟩
theorem d_X7_takes_47 : Dc cX7_takes 47 1 48 (.aload_n 0) := ⟨by decide +kernel, rfl⟩
theorem d_X7_takes_48 : Dc cX7_takes 48 3 51 (.getfield 150) := ⟨by decide +kernel, rfl⟩
theorem d_X7_takes_51 : Dj cX7_takes 51 54 58 (.ifCond .ne) := ⟨7, by decide +kernel, rfl, by decide⟩
theorem d_X7_takes_54 : Dc cX7_takes 54 1 55 (.iload_n 3) := ⟨by decide +kernel, rfl⟩
theorem d_X7_takes_55 : Dj cX7_takes 55 58 62 (.ifCond .ne) := ⟨7, by decide +kernel, rfl, by decide⟩
theorem d_X7_takes_58 : Dc cX7_takes 58 1 59 (.iconst 1) := ⟨by decide +kernel, rfl⟩
theorem d_X7_takes_59 : Dj cX7_takes 59 62 63 .goto := ⟨4, by decide +kernel, rfl, by decide⟩
theorem d_X7_takes_62 : Dc cX7_takes 62 1 63 (.iconst 0) := ⟨by decide +kernel, rfl⟩
theorem d_X7_takes_63 : Dc cX7_takes 63 3 66 (.putfield 150) := ⟨by decide +kernel, rfl⟩
theorem d_X7_takes_66 : Dc cX7_takes 66 2 68 (.iload 4) := ⟨by decide +kernel, rfl⟩
theorem d_X7_takes_68 : decode cX7_takes 68 = .ok (.ireturn, 1) := by decide +kernel
set_option maxHeartbeats 4000000 in
set_option maxRecDepth 20000 in
theorem c_X7_takes {E : Ev} {n : Nat} {M : Mem} {m : Nat} {s a sn tx : Int → Int} {H : Int → Int → Int} {kn kp ln st se sp wr le f1 f2 f3 f4 f5 sb : Int} (ht : txB tx ln) (hs : 0 ≤ sp ∧ sp ≤ ln) (hw : wr = 0 ∨ wr = 1) {lo hi : Int} (h1 : rg lo) (h2 : rg hi) : MT E yX7_takes cX7_takes 5 (some .int) 2 0 0 [.ref m, .int (iI lo), .int (iI hi)] n (md E M m s a (hOf H) sn tx kn kp ln st se sp wr le f1 f2 f3 f4 f5 sb) ((PF (some (.int (iI (tkV tx ln sp wr lo hi)))) n (md E M m s a (hOf H) sn tx kn kp ln st se (tkS tx ln sp wr lo hi) (tkW tx ln sp wr lo hi) le f1 f2 f3 f4 f5 sb))) := by
  refine MT.of (by decide) rfl (Nat.le_of_ble_eq_true rfl) ?_
  intro X g
  have g0 := g.1
  show V E X 0 0 n (md E M m s a (hOf H) sn tx kn kp ln st se sp wr le f1 f2 f3 f4 f5 sb) 0 [some (.ref m), some (.int (iI lo)), some (.int (iI hi)), none, none] []
  have htx := ht.2
  have hl := ht.1
  refine V.al0 g0 d_X7_takes_0 ?_
  refine V.il1 g0 d_X7_takes_1 ?_
  refine V.il2 g0 d_X7_takes_2 ?_
  refine V.callVp g0 (c_X7_isNext ht hs hw h1 h2) ky_X7_isNext ki_X7_isNext ks2_X7_isNext lk_X7_157 (by first | exact md_0 | exact md_1 | exact md_2 | exact md_3 | exact md_4 | exact md_5) rfl rfl (Nat.le_of_ble_eq_true rfl) ⟨Nat.zero_le _, Nat.zero_le _⟩ rfl rfl (Nat.le_of_ble_eq_true rfl) d_X7_takes_3 ?_
  refine V.is3 g0 d_X7_takes_6 ?_
  refine V.il3 g0 d_X7_takes_7 ?_
  refine V.ifeqB g0 d_X7_takes_8 (fun c_8 => ?_) (fun c_8 => ?_)
  · skip
    refine V.iconst g0 d_X7_takes_25 ?_
    refine V.is4 g0 d_X7_takes_26 ?_
    refine V.al0 g0 d_X7_takes_28 ?_
    refine V.dup g0 d_X7_takes_29 rfl ?_
    refine V.getf g0 d_X7_takes_30 fl_X7_154 (by first | exact md_0 | exact md_1 | exact md_2 | exact md_3 | exact md_4 | exact md_5) (by rfl) ?_
    refine V.il3 g0 d_X7_takes_33 ?_
    refine V.ifeqB g0 d_X7_takes_34 (fun c_34 => ?_) (fun c_34 => ?_)
    · skip
      refine V.iconst g0 d_X7_takes_41 ?_
      refine V.iadd g0 d_X7_takes_42 ?_
      refine V.putf g0 d_X7_takes_43 fp_X7_154 (by first | exact md_0 | exact md_1 | exact md_2 | exact md_3 | exact md_4 | exact md_5) (Nat.le_of_ble_eq_true rfl) rfl rfl ?_
      first | refine V.eqM md_u1 ?_ | refine V.eqM md_u2 ?_ | refine V.eqM md_u3 ?_ | refine V.eqM md_u4 ?_ | refine V.eqM md_u5 ?_ | refine V.eqM md_u0 ?_
      refine V.al0 g0 d_X7_takes_46 ?_
      refine V.al0 g0 d_X7_takes_47 ?_
      refine V.getf g0 d_X7_takes_48 fl_X7_150 (by first | exact md_0 | exact md_1 | exact md_2 | exact md_3 | exact md_4 | exact md_5) (by rfl) ?_
      refine V.ifne g0 d_X7_takes_51 (by omega) (fun c_51 => ?_) (fun c_51 => ?_)
      · skip
        refine V.iconst g0 d_X7_takes_58 ?_
        refine V.goto g0 d_X7_takes_59 ?_
        refine V.putf g0 d_X7_takes_63 fp_X7_150 (by first | exact md_0 | exact md_1 | exact md_2 | exact md_3 | exact md_4 | exact md_5) (Nat.le_of_ble_eq_true rfl) rfl rfl ?_
        first | refine V.eqM md_u1 ?_ | refine V.eqM md_u2 ?_ | refine V.eqM md_u3 ?_ | refine V.eqM md_u4 ?_ | refine V.eqM md_u5 ?_ | refine V.eqM md_u0 ?_
        refine V.il4 g0 d_X7_takes_66 ?_
        refine V.iret g d_X7_takes_68 (Nat.zero_le _) (Nat.zero_le _) ?_
        obtain ⟨e1, e2, e3⟩ := tk_no c_8
        rw [e1, e2, e3]; exact ⟨rfl, rfl, rfl⟩
      · skip
        refine V.il3 g0 d_X7_takes_54 ?_
        refine V.ifneB g0 d_X7_takes_55 (fun c_55 => ?_) (fun c_55 => ?_)
        · skip
          first | exact absurd c_55 c_8 | exact absurd c_8 c_55
        · skip
          refine V.iconst g0 d_X7_takes_58 ?_
          refine V.goto g0 d_X7_takes_59 ?_
          refine V.putf g0 d_X7_takes_63 fp_X7_150 (by first | exact md_0 | exact md_1 | exact md_2 | exact md_3 | exact md_4 | exact md_5) (Nat.le_of_ble_eq_true rfl) rfl rfl ?_
          first | refine V.eqM md_u1 ?_ | refine V.eqM md_u2 ?_ | refine V.eqM md_u3 ?_ | refine V.eqM md_u4 ?_ | refine V.eqM md_u5 ?_ | refine V.eqM md_u0 ?_
          refine V.il4 g0 d_X7_takes_66 ?_
          refine V.iret g d_X7_takes_68 (Nat.zero_le _) (Nat.zero_le _) ?_
          obtain ⟨e1, e2, e3⟩ := tk_no c_8
          rw [e1, e2, e3]; exact ⟨rfl, rfl, rfl⟩
    · skip
      first | exact absurd c_34 c_8 | exact absurd c_8 c_34
  · skip
    have hb := c_8.2
    refine V.al0 g0 d_X7_takes_11 ?_
    refine V.getf g0 d_X7_takes_12 fl_X7_22 (by first | exact md_0 | exact md_1 | exact md_2 | exact md_3 | exact md_4 | exact md_5) (by rfl) ?_
    refine V.al0 g0 d_X7_takes_15 ?_
    refine V.getf g0 d_X7_takes_16 fl_X7_154 (by first | exact md_0 | exact md_1 | exact md_2 | exact md_3 | exact md_4 | exact md_5) (by rfl) ?_
    refine V.iald g0 d_X7_takes_19 (by first | exact md_0 | exact md_1 | exact md_2 | exact md_3 | exact md_4 | exact md_5) (by omega) (by decide) ?_
    refine V.il1 g0 d_X7_takes_20 ?_
    refine V.isub g0 d_X7_takes_21 ?_
    refine V.goto g0 d_X7_takes_22 ?_
    refine V.is4 g0 d_X7_takes_26 ?_
    refine V.al0 g0 d_X7_takes_28 ?_
    refine V.dup g0 d_X7_takes_29 rfl ?_
    refine V.getf g0 d_X7_takes_30 fl_X7_154 (by first | exact md_0 | exact md_1 | exact md_2 | exact md_3 | exact md_4 | exact md_5) (by rfl) ?_
    refine V.il3 g0 d_X7_takes_33 ?_
    refine V.ifeqB g0 d_X7_takes_34 (fun c_34 => ?_) (fun c_34 => ?_)
    · skip
      first | exact absurd c_34 c_8 | exact absurd c_8 c_34
    · skip
      refine V.iconst g0 d_X7_takes_37 ?_
      refine V.goto g0 d_X7_takes_38 ?_
      refine V.iadd g0 d_X7_takes_42 ?_
      refine V.putf g0 d_X7_takes_43 fp_X7_154 (by first | exact md_0 | exact md_1 | exact md_2 | exact md_3 | exact md_4 | exact md_5) (Nat.le_of_ble_eq_true rfl) rfl rfl ?_
      first | refine V.eqM md_u1 ?_ | refine V.eqM md_u2 ?_ | refine V.eqM md_u3 ?_ | refine V.eqM md_u4 ?_ | refine V.eqM md_u5 ?_ | refine V.eqM md_u0 ?_
      refine V.al0 g0 d_X7_takes_46 ?_
      refine V.al0 g0 d_X7_takes_47 ?_
      refine V.getf g0 d_X7_takes_48 fl_X7_150 (by first | exact md_0 | exact md_1 | exact md_2 | exact md_3 | exact md_4 | exact md_5) (by rfl) ?_
      refine V.ifne g0 d_X7_takes_51 (by omega) (fun c_51 => ?_) (fun c_51 => ?_)
      · skip
        exfalso; have := c_8.1; omega
      · skip
        refine V.il3 g0 d_X7_takes_54 ?_
        refine V.ifneB g0 d_X7_takes_55 (fun c_55 => ?_) (fun c_55 => ?_)
        · skip
          refine V.iconst g0 d_X7_takes_62 ?_
          refine V.putf g0 d_X7_takes_63 fp_X7_150 (by first | exact md_0 | exact md_1 | exact md_2 | exact md_3 | exact md_4 | exact md_5) (Nat.le_of_ble_eq_true rfl) rfl rfl ?_
          first | refine V.eqM md_u1 ?_ | refine V.eqM md_u2 ?_ | refine V.eqM md_u3 ?_ | refine V.eqM md_u4 ?_ | refine V.eqM md_u5 ?_ | refine V.eqM md_u0 ?_
          refine V.il4 g0 d_X7_takes_66 ?_
          refine V.iret g d_X7_takes_68 (Nat.zero_le _) (Nat.zero_le _) ?_
          obtain ⟨e1, e2, e3, _⟩ := tk_yes c_8
          rw [e1, e2, e3]; exact ⟨rfl, rfl, rfl⟩
        · skip
          first | exact absurd c_55 c_8 | exact absurd c_8 c_55

theorem d_X7_takesOne_0 : Dc cX7_takesOne 0 1 1 (.aload_n 0) := ⟨by decide +kernel, rfl⟩
theorem d_X7_takesOne_1 : Dc cX7_takesOne 1 1 2 (.iload_n 1) := ⟨by decide +kernel, rfl⟩
theorem d_X7_takesOne_2 : Dc cX7_takesOne 2 1 3 (.iload_n 1) := ⟨by decide +kernel, rfl⟩
theorem d_X7_takesOne_3 : Dc cX7_takesOne 3 3 6 (.invokevirtual 157) := ⟨by decide +kernel, rfl⟩
theorem d_X7_takesOne_6 : Dc cX7_takesOne 6 1 7 (.istore_n 2) := ⟨by decide +kernel, rfl⟩
theorem d_X7_takesOne_7 : Dc cX7_takesOne 7 1 8 (.aload_n 0) := ⟨by decide +kernel, rfl⟩
theorem d_X7_takesOne_8 : Dc cX7_takesOne 8 1 9 .dup := ⟨by decide +kernel, rfl⟩
theorem d_X7_takesOne_9 : Dc cX7_takesOne 9 3 12 (.getfield 154) := ⟨by decide +kernel, rfl⟩
theorem d_X7_takesOne_12 : Dc cX7_takesOne 12 1 13 (.iload_n 2) := ⟨by decide +kernel, rfl⟩
theorem d_X7_takesOne_13 : Dj cX7_takesOne 13 16 20 (.ifCond .eq) := ⟨7, by decide +kernel, rfl, by decide⟩
theorem d_X7_takesOne_16 : Dc cX7_takesOne 16 1 17 (.iconst 1) := ⟨by decide +kernel, rfl⟩
theorem d_X7_takesOne_17 : Dj cX7_takesOne 17 20 21 .goto := ⟨4, by decide +kernel, rfl, by decide⟩
theorem d_X7_takesOne_20 : Dc cX7_takesOne 20 1 21 (.iconst 0) := ⟨by decide +kernel, rfl⟩
theorem d_X7_takesOne_21 : Dc cX7_takesOne 21 1 22 .iadd := ⟨by decide +kernel, rfl⟩
theorem d_X7_takesOne_22 : Dc cX7_takesOne 22 3 25 (.putfield 154) := ⟨by decide +kernel, rfl⟩
theorem d_X7_takesOne_25 : Dc cX7_takesOne 25 1 26 (.iload_n 2) := ⟨by decide +kernel, rfl⟩
theorem d_X7_takesOne_26 : Dj cX7_takesOne 26 29 33 (.ifCond .eq) := ⟨7, by decide +kernel, rfl, by decide⟩
theorem d_X7_takesOne_29 : Dc cX7_takesOne 29 1 30 (.iconst 1) := ⟨by decide +kernel, rfl⟩
theorem d_X7_takesOne_30 : Dj cX7_takesOne 30 33 34 .goto := ⟨4, by decide +kernel, rfl, by decide⟩
theorem d_X7_takesOne_33 : Dc cX7_takesOne 33 1 34 (.iconst 0) := ⟨by decide +kernel, rfl⟩
theorem d_X7_takesOne_34 : decode cX7_takesOne 34 = .ok (.ireturn, 1) := by decide +kernel
set_option maxHeartbeats 4000000 in
set_option maxRecDepth 20000 in
theorem c_X7_takesOne {E : Ev} {n : Nat} {M : Mem} {m : Nat} {s a sn tx : Int → Int} {H : Int → Int → Int} {kn kp ln st se sp wr le f1 f2 f3 f4 f5 sb : Int} (ht : txB tx ln) (hs : 0 ≤ sp ∧ sp ≤ ln) (hw : wr = 0 ∨ wr = 1) {ch : Int} (h1 : rg ch) : MT E yX7_takesOne cX7_takesOne 3 (some .int) 2 0 0 [.ref m, .int (iI ch)] n (md E M m s a (hOf H) sn tx kn kp ln st se sp wr le f1 f2 f3 f4 f5 sb) ((PF (some (.int (iI (bI (nxt tx ln sp wr ch ch))))) n (md E M m s a (hOf H) sn tx kn kp ln st se (sp + bI (nxt tx ln sp wr ch ch)) wr le f1 f2 f3 f4 f5 sb))) := by
  refine MT.of (by decide) rfl (Nat.le_of_ble_eq_true rfl) ?_
  intro X g
  have g0 := g.1
  show V E X 0 0 n (md E M m s a (hOf H) sn tx kn kp ln st se sp wr le f1 f2 f3 f4 f5 sb) 0 [some (.ref m), some (.int (iI ch)), none] []
  refine V.al0 g0 d_X7_takesOne_0 ?_
  refine V.il1 g0 d_X7_takesOne_1 ?_
  refine V.il1 g0 d_X7_takesOne_2 ?_
  refine V.callVp g0 (c_X7_isNext ht hs hw h1 h1) ky_X7_isNext ki_X7_isNext ks2_X7_isNext lk_X7_157 (by first | exact md_0 | exact md_1 | exact md_2 | exact md_3 | exact md_4 | exact md_5) rfl rfl (Nat.le_of_ble_eq_true rfl) ⟨Nat.zero_le _, Nat.zero_le _⟩ rfl rfl (Nat.le_of_ble_eq_true rfl) d_X7_takesOne_3 ?_
  refine V.is2 g0 d_X7_takesOne_6 ?_
  refine V.al0 g0 d_X7_takesOne_7 ?_
  refine V.dup g0 d_X7_takesOne_8 rfl ?_
  refine V.getf g0 d_X7_takesOne_9 fl_X7_154 (by first | exact md_0 | exact md_1 | exact md_2 | exact md_3 | exact md_4 | exact md_5) (by rfl) ?_
  refine V.il2 g0 d_X7_takesOne_12 ?_
  refine V.ifeqB g0 d_X7_takesOne_13 (fun c_13 => ?_) (fun c_13 => ?_)
  · skip
    refine V.iconst g0 d_X7_takesOne_20 ?_
    refine V.iadd g0 d_X7_takesOne_21 ?_
    refine V.putf g0 d_X7_takesOne_22 fp_X7_154 (by first | exact md_0 | exact md_1 | exact md_2 | exact md_3 | exact md_4 | exact md_5) (Nat.le_of_ble_eq_true rfl) rfl rfl ?_
    first | refine V.eqM md_u1 ?_ | refine V.eqM md_u2 ?_ | refine V.eqM md_u3 ?_ | refine V.eqM md_u4 ?_ | refine V.eqM md_u5 ?_ | refine V.eqM md_u0 ?_
    refine V.il2 g0 d_X7_takesOne_25 ?_
    refine V.ifeqB g0 d_X7_takesOne_26 (fun c_26 => ?_) (fun c_26 => ?_)
    · skip
      refine V.iconst g0 d_X7_takesOne_33 ?_
      refine V.iret g d_X7_takesOne_34 (Nat.zero_le _) (Nat.zero_le _) ?_
      rw [bI_f c_13]; exact ⟨rfl, rfl, rfl⟩
    · skip
      first | exact absurd c_26 c_13 | exact absurd c_13 c_26
  · skip
    refine V.iconst g0 d_X7_takesOne_16 ?_
    refine V.goto g0 d_X7_takesOne_17 ?_
    refine V.iadd g0 d_X7_takesOne_21 ?_
    refine V.putf g0 d_X7_takesOne_22 fp_X7_154 (by first | exact md_0 | exact md_1 | exact md_2 | exact md_3 | exact md_4 | exact md_5) (Nat.le_of_ble_eq_true rfl) rfl rfl ?_
    first | refine V.eqM md_u1 ?_ | refine V.eqM md_u2 ?_ | refine V.eqM md_u3 ?_ | refine V.eqM md_u4 ?_ | refine V.eqM md_u5 ?_ | refine V.eqM md_u0 ?_
    refine V.il2 g0 d_X7_takesOne_25 ?_
    refine V.ifeqB g0 d_X7_takesOne_26 (fun c_26 => ?_) (fun c_26 => ?_)
    · skip
      first | exact absurd c_26 c_13 | exact absurd c_13 c_26
    · skip
      refine V.iconst g0 d_X7_takesOne_29 ?_
      refine V.goto g0 d_X7_takesOne_30 ?_
      refine V.iret g d_X7_takesOne_34 (Nat.zero_le _) (Nat.zero_le _) ?_
      rw [bI_t c_13]; exact ⟨rfl, rfl, rfl⟩

theorem d_X7_number_0 : Dc cX7_number 0 1 1 (.iload_n 1) := ⟨by decide +kernel, rfl⟩
theorem d_X7_number_1 : Dc cX7_number 1 1 2 (.aload_n 0) := ⟨by decide +kernel, rfl⟩
theorem d_X7_number_2 : Dc cX7_number 2 2 4 (.bipush 48) := ⟨by decide +kernel, rfl⟩
theorem d_X7_number_4 : Dc cX7_number 4 1 5 (.iload_n 1) := ⟨by decide +kernel, rfl⟩
theorem d_X7_number_5 : Dc cX7_number 5 1 6 .iadd := ⟨by decide +kernel, rfl⟩
theorem d_X7_number_6 : Dc cX7_number 6 2 8 (.bipush 57) := ⟨by decide +kernel, rfl⟩
theorem d_X7_number_8 : Dc cX7_number 8 3 11 (.invokevirtual 160) := ⟨by decide +kernel, rfl⟩
theorem d_X7_number_11 : Dc cX7_number 11 1 12 .iadd := ⟨by decide +kernel, rfl⟩
theorem d_X7_number_12 : Dc cX7_number 12 1 13 (.istore_n 3) := ⟨by decide +kernel, rfl⟩
theorem d_X7_number_13 : Dc cX7_number 13 1 14 (.iload_n 3) := ⟨by decide +kernel, rfl⟩
theorem d_X7_number_14 : Dj cX7_number 14 17 80 (.ifCond .le) := ⟨66, by decide +kernel, rfl, by decide⟩
theorem d_X7_number_17 : Dc cX7_number 17 1 18 (.aload_n 0) := ⟨by decide +kernel, rfl⟩
theorem d_X7_number_18 : Dc cX7_number 18 2 20 (.bipush 48) := ⟨by decide +kernel, rfl⟩
theorem d_X7_number_20 : Dc cX7_number 20 2 22 (.bipush 57) := ⟨by decide +kernel, rfl⟩
theorem d_X7_number_22 : Dc cX7_number 22 3 25 (.invokevirtual 157) := ⟨by decide +kernel, rfl⟩
theorem d_X7_number_25 : Dj cX7_number 25 28 80 (.ifCond .eq) := ⟨55, by decide +kernel, rfl, by decide⟩
theorem d_X7_number_28 : Dc cX7_number 28 2 30 (.bipush 10) := ⟨by decide +kernel, rfl⟩
theorem d_X7_number_30 : Dc cX7_number 30 1 31 (.iload_n 3) := ⟨by decide +kernel, rfl⟩
theorem d_X7_number_31 : Dc cX7_number 31 1 32 .imul := ⟨by decide +kernel, rfl⟩
theorem d_X7_number_32 : Dc cX7_number 32 1 33 (.aload_n 0) := ⟨by decide +kernel, rfl⟩
theorem d_X7_number_33 : Dc cX7_number 33 3 36 (.getfield 22) := ⟨by decide +kernel, rfl⟩
theorem d_X7_number_36 : Dc cX7_number 36 1 37 (.aload_n 0) := ⟨by decide +kernel, rfl⟩
theorem d_X7_number_37 : Dc cX7_number 37 3 40 (.getfield 154) := ⟨by decide +kernel, rfl⟩
theorem d_X7_number_40 : Dc cX7_number 40 1 41 .iaload := ⟨by decide +kernel, rfl⟩
theorem d_X7_number_41 : Dc cX7_number 41 1 42 .iadd := ⟨by decide +kernel, rfl⟩
theorem d_X7_number_42 : Dc cX7_number 42 2 44 (.bipush 48) := ⟨by decide +kernel, rfl⟩
theorem d_X7_number_44 : Dc cX7_number 44 1 45 .isub := ⟨by decide +kernel, rfl⟩
theorem d_X7_number_45 : Dc cX7_number 45 1 46 (.iload_n 2) := ⟨by decide +kernel, rfl⟩
theorem d_X7_number_46 : Dj cX7_number 46 49 80 (.if_icmp .gt) := ⟨34, by decide +kernel, rfl, by decide⟩
theorem d_X7_number_49 : Dc cX7_number 49 2 51 (.bipush 10) := ⟨by decide +kernel, rfl⟩
theorem d_X7_number_51 : Dc cX7_number 51 1 52 (.iload_n 3) := ⟨by decide +kernel, rfl⟩
theorem d_X7_number_52 : Dc cX7_number 52 1 53 .imul := ⟨by decide +kernel, rfl⟩
theorem d_X7_number_53 : Dc cX7_number 53 1 54 (.aload_n 0) := ⟨by decide +kernel, rfl⟩
theorem d_X7_number_54 : Dc cX7_number 54 3 57 (.getfield 22) := ⟨by decide +kernel, rfl⟩
theorem d_X7_number_57 : Dc cX7_number 57 1 58 (.aload_n 0) := ⟨by decide +kernel, rfl⟩
theorem d_X7_number_58 : Dc cX7_number 58 3 61 (.getfield 154) := ⟨by decide +kernel, rfl⟩
theorem d_X7_number_61 : Dc cX7_number 61 1 62 .iaload := ⟨by decide +kernel, rfl⟩
theorem d_X7_number_62 : Dc cX7_number 62 1 63 .iadd := ⟨by decide +kernel, rfl⟩
theorem d_X7_number_63 : Dc cX7_number 63 2 65 (.bipush 48) := ⟨by decide +kernel, rfl⟩
theorem d_X7_number_65 : Dc cX7_number 65 1 66 .isub := ⟨by decide +kernel, rfl⟩
theorem d_X7_number_66 : Dc cX7_number 66 1 67 (.istore_n 3) := ⟨by decide +kernel, rfl⟩
theorem d_X7_number_67 : Dc cX7_number 67 1 68 (.aload_n 0) := ⟨by decide +kernel, rfl⟩
theorem d_X7_number_68 : Dc cX7_number 68 1 69 .dup := ⟨by decide +kernel, rfl⟩
theorem d_X7_number_69 : Dc cX7_number 69 3 72 (.getfield 154) := ⟨by decide +kernel, rfl⟩
theorem d_X7_number_72 : Dc cX7_number 72 1 73 (.iconst 1) := ⟨by decide +kernel, rfl⟩
theorem d_X7_number_73 : Dc cX7_number 73 1 74 .iadd := ⟨by decide +kernel, rfl⟩
theorem d_X7_number_74 : Dc cX7_number 74 3 77 (.putfield 154) := ⟨by decide +kernel, rfl⟩
theorem d_X7_number_77 : Dj cX7_number 77 80 13 .goto := ⟨(-64), by decide +kernel, rfl, by decide⟩
theorem d_X7_number_80 : Dc cX7_number 80 1 81 (.iload_n 3) := ⟨by decide +kernel, rfl⟩
theorem d_X7_number_81 : decode cX7_number 81 = .ok (.ireturn, 1) := by decide +kernel
set_option maxHeartbeats 4000000 in
set_option maxRecDepth 20000 in
theorem c_X7_number {E : Ev} {n : Nat} {M : Mem} {m : Nat} {s a sn tx : Int → Int} {H : Int → Int → Int} {kn kp ln st se sp wr le f1 f2 f3 f4 f5 sb : Int} (ht : txB tx ln) (hs : 0 ≤ sp ∧ sp ≤ ln) (hw : wr = 0 ∨ wr = 1) {least most : Int} (h1 : 0 ≤ least ∧ least ≤ 9) (h2 : 9 ≤ most ∧ most ≤ 999) : MT E yX7_number cX7_number 4 (some .int) 3 0 0 [.ref m, .int (iI least), .int (iI most)] n (md E M m s a (hOf H) sn tx kn kp ln st se sp wr le f1 f2 f3 f4 f5 sb) ((PF (some (.int (iI ((nm tx ln sp wr least most).1)))) n (md E M m s a (hOf H) sn tx kn kp ln st se ((nm tx ln sp wr least most).2.1) ((nm tx ln sp wr least most).2.2) le f1 f2 f3 f4 f5 sb))) := by
  refine MT.of (by decide) rfl (Nat.le_of_ble_eq_true rfl) ?_
  intro X g
  have g0 := g.1
  show V E X 0 0 n (md E M m s a (hOf H) sn tx kn kp ln st se sp wr le f1 f2 f3 f4 f5 sb) 0 [some (.ref m), some (.int (iI least)), some (.int (iI most)), none] []
  have htx := ht.2
  have hl := ht.1
  have T0 := tk_all (tx := tx) (ln := ln) (sp := sp) (wr := wr) (lo := 48 + least) (hi := 57) hs (by omega)
  refine V.il1 g0 d_X7_number_0 ?_
  refine V.al0 g0 d_X7_number_1 ?_
  refine V.bipush g0 d_X7_number_2 (by decide) ?_
  refine V.il1 g0 d_X7_number_4 ?_
  refine V.iadd g0 d_X7_number_5 ?_
  refine V.bipush g0 d_X7_number_6 (by decide) ?_
  refine V.callVf g0 (c_X7_takes ht hs hw (by constructor <;> omega) (by constructor <;> omega)) ky_X7_takes ki_X7_takes ks2_X7_takes lk_X7_160 (by first | exact md_0 | exact md_1 | exact md_2 | exact md_3 | exact md_4 | exact md_5) rfl rfl (Nat.le_of_ble_eq_true rfl) ⟨Nat.zero_le _, Nat.zero_le _⟩ rfl rfl (Nat.le_of_ble_eq_true rfl) d_X7_number_8 ?_
  refine V.iadd g0 d_X7_number_11 ?_
  refine V.is3 g0 d_X7_number_12 ?_
  have LP : ∀ (f : Nat) (v s1 w1 : Int), ln - s1 < f → 0 ≤ s1 ∧ s1 ≤ ln → (w1 = 0 ∨ w1 = 1) → 0 ≤ v ∧ v ≤ most → nm tx ln sp wr least most = nmF tx ln most f v s1 w1 → V E X 0 0 n (md E M m s a (hOf H) sn tx kn kp ln st se s1 w1 le f1 f2 f3 f4 f5 sb) 13 [some (.ref m), some (.int (iI least)), some (.int (iI most)), some (.int (iI v))] [] := by
    intro f
    induction f using Nat.strongRecOn with
    | _ f ih =>
    intro v s1 w1 hf hs1 hw1 hv hR
    refine V.il3 g0 d_X7_number_13 ?_
    refine V.ifle g0 d_X7_number_14 (by omega) (fun c_14 => ?_) (fun c_14 => ?_)
    · skip
      have hst : w1 = 0 → ¬ (0 < v ∧ nxt tx ln s1 0 48 57 ∧ 10 * v + tx s1 - 48 ≤ most) := fun _ q => by have := q.1; omega
      refine V.il3 g0 d_X7_number_80 ?_
      refine V.iret g d_X7_number_81 (Nat.zero_le _) (Nat.zero_le _) ?_
      rw [hR, nmF_stop hw1 hst]; exact ⟨rfl, rfl, rfl⟩
    · skip
      refine V.al0 g0 d_X7_number_17 ?_
      refine V.bipush g0 d_X7_number_18 (by decide) ?_
      refine V.bipush g0 d_X7_number_20 (by decide) ?_
      refine V.callVp g0 (c_X7_isNext ht hs1 hw1 (by decide) (by decide)) ky_X7_isNext ki_X7_isNext ks2_X7_isNext lk_X7_157 (by first | exact md_0 | exact md_1 | exact md_2 | exact md_3 | exact md_4 | exact md_5) rfl rfl (Nat.le_of_ble_eq_true rfl) ⟨Nat.zero_le _, Nat.zero_le _⟩ rfl rfl (Nat.le_of_ble_eq_true rfl) d_X7_number_22 ?_
      refine V.ifeqB g0 d_X7_number_25 (fun c_25 => ?_) (fun c_25 => ?_)
      · skip
        have hst : w1 = 0 → ¬ (0 < v ∧ nxt tx ln s1 0 48 57 ∧ 10 * v + tx s1 - 48 ≤ most) := fun e q => c_25 ⟨e, q.2.1.2⟩
        refine V.il3 g0 d_X7_number_80 ?_
        refine V.iret g d_X7_number_81 (Nat.zero_le _) (Nat.zero_le _) ?_
        rw [hR, nmF_stop hw1 hst]; exact ⟨rfl, rfl, rfl⟩
      · skip
        have hb := htx s1 hs1.1 c_25.2.1
        have hb2 := c_25.2
        refine V.bipush g0 d_X7_number_28 (by decide) ?_
        refine V.il3 g0 d_X7_number_30 ?_
        refine V.imul g0 d_X7_number_31 ?_
        refine V.al0 g0 d_X7_number_32 ?_
        refine V.getf g0 d_X7_number_33 fl_X7_22 (by first | exact md_0 | exact md_1 | exact md_2 | exact md_3 | exact md_4 | exact md_5) (by rfl) ?_
        refine V.al0 g0 d_X7_number_36 ?_
        refine V.getf g0 d_X7_number_37 fl_X7_154 (by first | exact md_0 | exact md_1 | exact md_2 | exact md_3 | exact md_4 | exact md_5) (by rfl) ?_
        refine V.iald g0 d_X7_number_40 (by first | exact md_0 | exact md_1 | exact md_2 | exact md_3 | exact md_4 | exact md_5) (by omega) (by decide) ?_
        refine V.iadd g0 d_X7_number_41 ?_
        refine V.bipush g0 d_X7_number_42 (by decide) ?_
        refine V.isub g0 d_X7_number_44 ?_
        refine V.il2 g0 d_X7_number_45 ?_
        refine V.icmpgt g0 d_X7_number_46 (by omega) (fun c_46 => ?_) (fun c_46 => ?_)
        · skip
          have hst : w1 = 0 → ¬ (0 < v ∧ nxt tx ln s1 0 48 57 ∧ 10 * v + tx s1 - 48 ≤ most) := fun _ q => by have := q.2.2; omega
          refine V.il3 g0 d_X7_number_80 ?_
          refine V.iret g d_X7_number_81 (Nat.zero_le _) (Nat.zero_le _) ?_
          rw [hR, nmF_stop hw1 hst]; exact ⟨rfl, rfl, rfl⟩
        · skip
          refine V.bipush g0 d_X7_number_49 (by decide) ?_
          refine V.il3 g0 d_X7_number_51 ?_
          refine V.imul g0 d_X7_number_52 ?_
          refine V.al0 g0 d_X7_number_53 ?_
          refine V.getf g0 d_X7_number_54 fl_X7_22 (by first | exact md_0 | exact md_1 | exact md_2 | exact md_3 | exact md_4 | exact md_5) (by rfl) ?_
          refine V.al0 g0 d_X7_number_57 ?_
          refine V.getf g0 d_X7_number_58 fl_X7_154 (by first | exact md_0 | exact md_1 | exact md_2 | exact md_3 | exact md_4 | exact md_5) (by rfl) ?_
          refine V.iald g0 d_X7_number_61 (by first | exact md_0 | exact md_1 | exact md_2 | exact md_3 | exact md_4 | exact md_5) (by omega) (by decide) ?_
          refine V.iadd g0 d_X7_number_62 ?_
          refine V.bipush g0 d_X7_number_63 (by decide) ?_
          refine V.isub g0 d_X7_number_65 ?_
          refine V.is3 g0 d_X7_number_66 ?_
          refine V.al0 g0 d_X7_number_67 ?_
          refine V.dup g0 d_X7_number_68 rfl ?_
          refine V.getf g0 d_X7_number_69 fl_X7_154 (by first | exact md_0 | exact md_1 | exact md_2 | exact md_3 | exact md_4 | exact md_5) (by rfl) ?_
          refine V.iconst g0 d_X7_number_72 ?_
          refine V.iadd g0 d_X7_number_73 ?_
          refine V.putf g0 d_X7_number_74 fp_X7_154 (by first | exact md_0 | exact md_1 | exact md_2 | exact md_3 | exact md_4 | exact md_5) (Nat.le_of_ble_eq_true rfl) rfl rfl ?_
          first | refine V.eqM md_u1 ?_ | refine V.eqM md_u2 ?_ | refine V.eqM md_u3 ?_ | refine V.eqM md_u4 ?_ | refine V.eqM md_u5 ?_ | refine V.eqM md_u0 ?_
          refine V.goto g0 d_X7_number_77 ?_
          exact ih (f - 1) (by omega) _ _ _ (by omega) (by omega) hw1 (by omega) (by rw [hR, nmF_step (by omega) c_25.1 ⟨by omega, ⟨rfl, c_25.2⟩, by omega⟩])
  exact LP 61 _ _ _ (by omega) (by omega) T0.2.1 (by omega) nmF_0

theorem d_X7_readVisa_0 : Dc cX7_readVisa 0 1 1 (.aload_n 0) := ⟨by decide +kernel, rfl⟩
theorem d_X7_readVisa_1 : Dc cX7_readVisa 1 2 3 (.bipush 58) := ⟨by decide +kernel, rfl⟩
theorem d_X7_readVisa_3 : Dc cX7_readVisa 3 2 5 (.bipush 58) := ⟨by decide +kernel, rfl⟩
theorem d_X7_readVisa_5 : Dc cX7_readVisa 5 3 8 (.invokevirtual 160) := ⟨by decide +kernel, rfl⟩
theorem d_X7_readVisa_8 : Dc cX7_readVisa 8 1 9 (.istore_n 1) := ⟨by decide +kernel, rfl⟩
theorem d_X7_readVisa_9 : Dc cX7_readVisa 9 1 10 (.aload_n 0) := ⟨by decide +kernel, rfl⟩
theorem d_X7_readVisa_10 : Dc cX7_readVisa 10 1 11 (.aload_n 0) := ⟨by decide +kernel, rfl⟩
theorem d_X7_readVisa_11 : Dc cX7_readVisa 11 1 12 (.iconst 0) := ⟨by decide +kernel, rfl⟩
theorem d_X7_readVisa_12 : Dc cX7_readVisa 12 3 15 (.sipush 999) := ⟨by decide +kernel, rfl⟩
theorem d_X7_readVisa_15 : Dc cX7_readVisa 15 3 18 (.invokevirtual 163) := ⟨by decide +kernel, rfl⟩
theorem d_X7_readVisa_18 : Dc cX7_readVisa 18 3 21 (.putfield 166) := ⟨by decide +kernel, rfl⟩
theorem d_X7_readVisa_21 : Dc cX7_readVisa 21 1 22 (.aload_n 0) := ⟨by decide +kernel, rfl⟩
theorem d_X7_readVisa_22 : Dc cX7_readVisa 22 2 24 (.bipush 45) := ⟨by decide +kernel, rfl⟩
theorem d_X7_readVisa_24 : Dc cX7_readVisa 24 2 26 (.bipush 45) := ⟨by decide +kernel, rfl⟩
theorem d_X7_readVisa_26 : Dc cX7_readVisa 26 3 29 (.invokevirtual 160) := ⟨by decide +kernel, rfl⟩
theorem d_X7_readVisa_29 : Dc cX7_readVisa 29 1 30 (.istore_n 1) := ⟨by decide +kernel, rfl⟩
theorem d_X7_readVisa_30 : Dc cX7_readVisa 30 1 31 (.aload_n 0) := ⟨by decide +kernel, rfl⟩
theorem d_X7_readVisa_31 : Dc cX7_readVisa 31 1 32 (.aload_n 0) := ⟨by decide +kernel, rfl⟩
theorem d_X7_readVisa_32 : Dc cX7_readVisa 32 1 33 (.iconst 0) := ⟨by decide +kernel, rfl⟩
theorem d_X7_readVisa_33 : Dc cX7_readVisa 33 3 36 (.sipush 999) := ⟨by decide +kernel, rfl⟩
theorem d_X7_readVisa_36 : Dc cX7_readVisa 36 3 39 (.invokevirtual 163) := ⟨by decide +kernel, rfl⟩
theorem d_X7_readVisa_39 : Dc cX7_readVisa 39 3 42 (.putfield 169) := ⟨by decide +kernel, rfl⟩
theorem d_X7_readVisa_42 : Dc cX7_readVisa 42 1 43 (.aload_n 0) := ⟨by decide +kernel, rfl⟩
theorem d_X7_readVisa_43 : Dc cX7_readVisa 43 2 45 (.bipush 42) := ⟨by decide +kernel, rfl⟩
theorem d_X7_readVisa_45 : Dc cX7_readVisa 45 2 47 (.bipush 42) := ⟨by decide +kernel, rfl⟩
theorem d_X7_readVisa_47 : Dc cX7_readVisa 47 3 50 (.invokevirtual 160) := ⟨by decide +kernel, rfl⟩
theorem d_X7_readVisa_50 : Dc cX7_readVisa 50 1 51 (.istore_n 1) := ⟨by decide +kernel, rfl⟩
theorem d_X7_readVisa_51 : Dc cX7_readVisa 51 1 52 (.aload_n 0) := ⟨by decide +kernel, rfl⟩
theorem d_X7_readVisa_52 : Dc cX7_readVisa 52 1 53 (.aload_n 0) := ⟨by decide +kernel, rfl⟩
theorem d_X7_readVisa_53 : Dc cX7_readVisa 53 1 54 (.iconst 1) := ⟨by decide +kernel, rfl⟩
theorem d_X7_readVisa_54 : Dc cX7_readVisa 54 2 56 (.bipush 99) := ⟨by decide +kernel, rfl⟩
theorem d_X7_readVisa_56 : Dc cX7_readVisa 56 3 59 (.invokevirtual 163) := ⟨by decide +kernel, rfl⟩
theorem d_X7_readVisa_59 : Dc cX7_readVisa 59 3 62 (.putfield 172) := ⟨by decide +kernel, rfl⟩
theorem d_X7_readVisa_62 : decode cX7_readVisa 62 = .ok (.return_, 1) := by decide +kernel
set_option maxHeartbeats 4000000 in
set_option maxRecDepth 20000 in
theorem c_X7_readVisa {E : Ev} {n : Nat} {M : Mem} {m : Nat} {s a sn tx : Int → Int} {H : Int → Int → Int} {kn kp ln st se sp wr le f1 f2 f3 f4 f5 sb : Int} (ht : txB tx ln) (hs : 0 ≤ sp ∧ sp ≤ ln) (hw : wr = 0 ∨ wr = 1) : MT E yX7_readVisa cX7_readVisa 2 none 4 0 0 [.ref m] n (md E M m s a (hOf H) sn tx kn kp ln st se sp wr le f1 f2 f3 f4 f5 sb) ((PF none n (md E M m s a (hOf H) sn tx kn kp ln st se ((vs3 tx ln sp wr).2.1) ((vs3 tx ln sp wr).2.2) le f1 f2 ((vs1 tx ln sp wr).1) ((vs2 tx ln sp wr).1) ((vs3 tx ln sp wr).1) sb))) := by
  refine MT.of (by decide) rfl (Nat.le_of_ble_eq_true rfl) ?_
  intro X g
  have g0 := g.1
  show V E X 0 0 n (md E M m s a (hOf H) sn tx kn kp ln st se sp wr le f1 f2 f3 f4 f5 sb) 0 [some (.ref m), none] []
  have t1 := tk_all (tx := tx) (ln := ln) (sp := sp) (wr := wr) (lo := 58) (hi := 58) (by omega) (by omega)
  have b1 := nm_b (tx := tx) (ln := ln) (sp := tkS tx ln sp wr 58 58) (wr := tkW tx ln sp wr 58 58) (least := 0) (most := 999) (by omega) (by omega)
  rw [show nm tx ln (tkS tx ln sp wr 58 58) (tkW tx ln sp wr 58 58) 0 999 = vs1 tx ln sp wr from rfl] at b1
  have t2 := tk_all (tx := tx) (ln := ln) (sp := (vs1 tx ln sp wr).2.1) (wr := (vs1 tx ln sp wr).2.2) (lo := 45) (hi := 45) (by omega) (by omega)
  have b2 := nm_b (tx := tx) (ln := ln) (sp := tkS tx ln (vs1 tx ln sp wr).2.1 (vs1 tx ln sp wr).2.2 45 45) (wr := tkW tx ln (vs1 tx ln sp wr).2.1 (vs1 tx ln sp wr).2.2 45 45) (least := 0) (most := 999) (by omega) (by omega)
  rw [show nm tx ln (tkS tx ln (vs1 tx ln sp wr).2.1 (vs1 tx ln sp wr).2.2 45 45) (tkW tx ln (vs1 tx ln sp wr).2.1 (vs1 tx ln sp wr).2.2 45 45) 0 999 = vs2 tx ln sp wr from rfl] at b2
  have t3 := tk_all (tx := tx) (ln := ln) (sp := (vs2 tx ln sp wr).2.1) (wr := (vs2 tx ln sp wr).2.2) (lo := 42) (hi := 42) (by omega) (by omega)
  refine V.al0 g0 d_X7_readVisa_0 ?_
  refine V.bipush g0 d_X7_readVisa_1 (by decide) ?_
  refine V.bipush g0 d_X7_readVisa_3 (by decide) ?_
  refine V.callVf g0 (c_X7_takes ht hs hw (by decide) (by decide)) ky_X7_takes ki_X7_takes ks2_X7_takes lk_X7_160 (by first | exact md_0 | exact md_1 | exact md_2 | exact md_3 | exact md_4 | exact md_5) rfl rfl (Nat.le_of_ble_eq_true rfl) ⟨Nat.zero_le _, Nat.zero_le _⟩ rfl rfl (Nat.le_of_ble_eq_true rfl) d_X7_readVisa_5 ?_
  refine V.is1 g0 d_X7_readVisa_8 ?_
  refine V.al0 g0 d_X7_readVisa_9 ?_
  refine V.al0 g0 d_X7_readVisa_10 ?_
  refine V.iconst g0 d_X7_readVisa_11 ?_
  refine V.sipush g0 d_X7_readVisa_12 (by decide) ?_
  refine V.callVf g0 (c_X7_number ht (by omega) t1.2.1 (by omega) (by omega)) ky_X7_number ki_X7_number ks2_X7_number lk_X7_163 (by first | exact md_0 | exact md_1 | exact md_2 | exact md_3 | exact md_4 | exact md_5) rfl rfl (Nat.le_of_ble_eq_true rfl) ⟨Nat.zero_le _, Nat.zero_le _⟩ rfl rfl (Nat.le_of_ble_eq_true rfl) d_X7_readVisa_15 ?_
  rw [show nm tx ln (tkS tx ln sp wr 58 58) (tkW tx ln sp wr 58 58) 0 999 = vs1 tx ln sp wr from rfl]
  refine V.putf g0 d_X7_readVisa_18 fp_X7_166 (by first | exact md_0 | exact md_1 | exact md_2 | exact md_3 | exact md_4 | exact md_5) (Nat.le_of_ble_eq_true rfl) rfl rfl ?_
  first | refine V.eqM md_u1 ?_ | refine V.eqM md_u2 ?_ | refine V.eqM md_u3 ?_ | refine V.eqM md_u4 ?_ | refine V.eqM md_u5 ?_ | refine V.eqM md_u0 ?_
  refine V.al0 g0 d_X7_readVisa_21 ?_
  refine V.bipush g0 d_X7_readVisa_22 (by decide) ?_
  refine V.bipush g0 d_X7_readVisa_24 (by decide) ?_
  refine V.callVf g0 (c_X7_takes ht (by omega) b1.2.1 (by decide) (by decide)) ky_X7_takes ki_X7_takes ks2_X7_takes lk_X7_160 (by first | exact md_0 | exact md_1 | exact md_2 | exact md_3 | exact md_4 | exact md_5) rfl rfl (Nat.le_of_ble_eq_true rfl) ⟨Nat.zero_le _, Nat.zero_le _⟩ rfl rfl (Nat.le_of_ble_eq_true rfl) d_X7_readVisa_26 ?_
  refine V.is1 g0 d_X7_readVisa_29 ?_
  refine V.al0 g0 d_X7_readVisa_30 ?_
  refine V.al0 g0 d_X7_readVisa_31 ?_
  refine V.iconst g0 d_X7_readVisa_32 ?_
  refine V.sipush g0 d_X7_readVisa_33 (by decide) ?_
  refine V.callVf g0 (c_X7_number ht (by omega) t2.2.1 (by omega) (by omega)) ky_X7_number ki_X7_number ks2_X7_number lk_X7_163 (by first | exact md_0 | exact md_1 | exact md_2 | exact md_3 | exact md_4 | exact md_5) rfl rfl (Nat.le_of_ble_eq_true rfl) ⟨Nat.zero_le _, Nat.zero_le _⟩ rfl rfl (Nat.le_of_ble_eq_true rfl) d_X7_readVisa_36 ?_
  rw [show nm tx ln (tkS tx ln (vs1 tx ln sp wr).2.1 (vs1 tx ln sp wr).2.2 45 45) (tkW tx ln (vs1 tx ln sp wr).2.1 (vs1 tx ln sp wr).2.2 45 45) 0 999 = vs2 tx ln sp wr from rfl]
  refine V.putf g0 d_X7_readVisa_39 fp_X7_169 (by first | exact md_0 | exact md_1 | exact md_2 | exact md_3 | exact md_4 | exact md_5) (Nat.le_of_ble_eq_true rfl) rfl rfl ?_
  first | refine V.eqM md_u1 ?_ | refine V.eqM md_u2 ?_ | refine V.eqM md_u3 ?_ | refine V.eqM md_u4 ?_ | refine V.eqM md_u5 ?_ | refine V.eqM md_u0 ?_
  refine V.al0 g0 d_X7_readVisa_42 ?_
  refine V.bipush g0 d_X7_readVisa_43 (by decide) ?_
  refine V.bipush g0 d_X7_readVisa_45 (by decide) ?_
  refine V.callVf g0 (c_X7_takes ht (by omega) b2.2.1 (by decide) (by decide)) ky_X7_takes ki_X7_takes ks2_X7_takes lk_X7_160 (by first | exact md_0 | exact md_1 | exact md_2 | exact md_3 | exact md_4 | exact md_5) rfl rfl (Nat.le_of_ble_eq_true rfl) ⟨Nat.zero_le _, Nat.zero_le _⟩ rfl rfl (Nat.le_of_ble_eq_true rfl) d_X7_readVisa_47 ?_
  refine V.is1 g0 d_X7_readVisa_50 ?_
  refine V.al0 g0 d_X7_readVisa_51 ?_
  refine V.al0 g0 d_X7_readVisa_52 ?_
  refine V.iconst g0 d_X7_readVisa_53 ?_
  refine V.bipush g0 d_X7_readVisa_54 (by decide) ?_
  refine V.callVf g0 (c_X7_number ht (by omega) t3.2.1 (by omega) (by omega)) ky_X7_number ki_X7_number ks2_X7_number lk_X7_163 (by first | exact md_0 | exact md_1 | exact md_2 | exact md_3 | exact md_4 | exact md_5) rfl rfl (Nat.le_of_ble_eq_true rfl) ⟨Nat.zero_le _, Nat.zero_le _⟩ rfl rfl (Nat.le_of_ble_eq_true rfl) d_X7_readVisa_56 ?_
  refine V.putf g0 d_X7_readVisa_59 fp_X7_172 (by first | exact md_0 | exact md_1 | exact md_2 | exact md_3 | exact md_4 | exact md_5) (Nat.le_of_ble_eq_true rfl) rfl rfl ?_
  first | refine V.eqM md_u1 ?_ | refine V.eqM md_u2 ?_ | refine V.eqM md_u3 ?_ | refine V.eqM md_u4 ?_ | refine V.eqM md_u5 ?_ | refine V.eqM md_u0 ?_
  refine V.vret g d_X7_readVisa_62 (Nat.zero_le _) (Nat.zero_le _) ?_
  exact ⟨rfl, rfl, rfl⟩

theorem d_X7_readOne_0 : Dc cX7_readOne 0 1 1 (.aload_n 0) := ⟨by decide +kernel, rfl⟩
theorem d_X7_readOne_1 : Dc cX7_readOne 1 1 2 (.aload_n 0) := ⟨by decide +kernel, rfl⟩
theorem d_X7_readOne_2 : Dc cX7_readOne 2 3 5 (.getfield 154) := ⟨by decide +kernel, rfl⟩
theorem d_X7_readOne_5 : Dc cX7_readOne 5 1 6 (.aload_n 0) := ⟨by decide +kernel, rfl⟩
theorem d_X7_readOne_6 : Dc cX7_readOne 6 3 9 (.getfield 147) := ⟨by decide +kernel, rfl⟩
theorem d_X7_readOne_9 : Dj cX7_readOne 9 12 24 (.if_icmp .ge) := ⟨15, by decide +kernel, rfl, by decide⟩
theorem d_X7_readOne_12 : Dc cX7_readOne 12 1 13 (.aload_n 0) := ⟨by decide +kernel, rfl⟩
theorem d_X7_readOne_13 : Dc cX7_readOne 13 3 16 (.getfield 22) := ⟨by decide +kernel, rfl⟩
theorem d_X7_readOne_16 : Dc cX7_readOne 16 1 17 (.aload_n 0) := ⟨by decide +kernel, rfl⟩
theorem d_X7_readOne_17 : Dc cX7_readOne 17 3 20 (.getfield 154) := ⟨by decide +kernel, rfl⟩
theorem d_X7_readOne_20 : Dc cX7_readOne 20 1 21 .iaload := ⟨by decide +kernel, rfl⟩
theorem d_X7_readOne_21 : Dj cX7_readOne 21 24 25 .goto := ⟨4, by decide +kernel, rfl, by decide⟩
theorem d_X7_readOne_24 : Dc cX7_readOne 24 1 25 (.iconst 0) := ⟨by decide +kernel, rfl⟩
theorem d_X7_readOne_25 : Dc cX7_readOne 25 3 28 (.putfield 175) := ⟨by decide +kernel, rfl⟩
theorem d_X7_readOne_28 : Dc cX7_readOne 28 1 29 (.aload_n 0) := ⟨by decide +kernel, rfl⟩
theorem d_X7_readOne_29 : Dc cX7_readOne 29 1 30 (.aload_n 0) := ⟨by decide +kernel, rfl⟩
theorem d_X7_readOne_30 : Dc cX7_readOne 30 3 33 (.getfield 150) := ⟨by decide +kernel, rfl⟩
theorem d_X7_readOne_33 : Dj cX7_readOne 33 36 63 (.ifCond .ne) := ⟨30, by decide +kernel, rfl, by decide⟩
theorem d_X7_readOne_36 : Dc cX7_readOne 36 1 37 (.aload_n 0) := ⟨by decide +kernel, rfl⟩
theorem d_X7_readOne_37 : Dc cX7_readOne 37 3 40 (.getfield 175) := ⟨by decide +kernel, rfl⟩
theorem d_X7_readOne_40 : Dc cX7_readOne 40 2 42 (.bipush 120) := ⟨by decide +kernel, rfl⟩
theorem d_X7_readOne_42 : Dj cX7_readOne 42 45 67 (.if_icmp .eq) := ⟨25, by decide +kernel, rfl, by decide⟩
theorem d_X7_readOne_45 : Dc cX7_readOne 45 1 46 (.aload_n 0) := ⟨by decide +kernel, rfl⟩
theorem d_X7_readOne_46 : Dc cX7_readOne 46 3 49 (.getfield 175) := ⟨by decide +kernel, rfl⟩
theorem d_X7_readOne_49 : Dc cX7_readOne 49 2 51 (.bipush 118) := ⟨by decide +kernel, rfl⟩
theorem d_X7_readOne_51 : Dj cX7_readOne 51 54 67 (.if_icmp .eq) := ⟨16, by decide +kernel, rfl, by decide⟩
theorem d_X7_readOne_54 : Dc cX7_readOne 54 1 55 (.aload_n 0) := ⟨by decide +kernel, rfl⟩
theorem d_X7_readOne_55 : Dc cX7_readOne 55 3 58 (.getfield 175) := ⟨by decide +kernel, rfl⟩
theorem d_X7_readOne_58 : Dc cX7_readOne 58 2 60 (.bipush 46) := ⟨by decide +kernel, rfl⟩
theorem d_X7_readOne_60 : Dj cX7_readOne 60 63 67 (.if_icmp .eq) := ⟨7, by decide +kernel, rfl, by decide⟩
theorem d_X7_readOne_63 : Dc cX7_readOne 63 1 64 (.iconst 1) := ⟨by decide +kernel, rfl⟩
theorem d_X7_readOne_64 : Dj cX7_readOne 64 67 68 .goto := ⟨4, by decide +kernel, rfl, by decide⟩
theorem d_X7_readOne_67 : Dc cX7_readOne 67 1 68 (.iconst 0) := ⟨by decide +kernel, rfl⟩
theorem d_X7_readOne_68 : Dc cX7_readOne 68 3 71 (.putfield 150) := ⟨by decide +kernel, rfl⟩
theorem d_X7_readOne_71 : Dc cX7_readOne 71 1 72 (.aload_n 0) := ⟨by decide +kernel, rfl⟩
theorem d_X7_readOne_72 : Dc cX7_readOne 72 1 73 .dup := ⟨by decide +kernel, rfl⟩
theorem d_X7_readOne_73 : Dc cX7_readOne 73 3 76 (.getfield 154) := ⟨by decide +kernel, rfl⟩
theorem d_X7_readOne_76 : Dc cX7_readOne 76 1 77 (.aload_n 0) := ⟨by decide +kernel, rfl⟩
theorem d_X7_readOne_77 : Dc cX7_readOne 77 3 80 (.getfield 150) := ⟨by decide +kernel, rfl⟩
theorem d_X7_readOne_80 : Dj cX7_readOne 80 83 87 (.ifCond .eq) := ⟨7, by decide +kernel, rfl, by decide⟩
theorem d_X7_readOne_83 : Dc cX7_readOne 83 1 84 (.iconst 0) := ⟨by decide +kernel, rfl⟩
theorem d_X7_readOne_84 : Dj cX7_readOne 84 87 88 .goto := ⟨4, by decide +kernel, rfl, by decide⟩
theorem d_X7_readOne_87 : Dc cX7_readOne 87 1 88 (.iconst 1) := ⟨by decide +kernel, rfl⟩
theorem d_X7_readOne_88 : Dc cX7_readOne 88 1 89 .iadd := ⟨by decide +kernel, rfl⟩
theorem d_X7_readOne_89 : Dc cX7_readOne 89 3 92 (.putfield 154) := ⟨by decide +kernel, rfl⟩
theorem d_X7_readOne_92 : Dc cX7_readOne 92 1 93 (.aload_n 0) := ⟨by decide +kernel, rfl⟩
theorem d_X7_readOne_93 : Dc cX7_readOne 93 3 96 (.getfield 175) := ⟨by decide +kernel, rfl⟩
theorem d_X7_readOne_96 : Dc cX7_readOne 96 2 98 (.bipush 46) := ⟨by decide +kernel, rfl⟩
theorem d_X7_readOne_98 : Dj cX7_readOne 98 101 113 (.if_icmp .ne) := ⟨15, by decide +kernel, rfl, by decide⟩
theorem d_X7_readOne_101 : Dc cX7_readOne 101 1 102 (.aload_n 0) := ⟨by decide +kernel, rfl⟩
theorem d_X7_readOne_102 : Dc cX7_readOne 102 1 103 (.aload_n 0) := ⟨by decide +kernel, rfl⟩
theorem d_X7_readOne_103 : Dc cX7_readOne 103 1 104 (.iconst 1) := ⟨by decide +kernel, rfl⟩
theorem d_X7_readOne_104 : Dc cX7_readOne 104 2 106 (.bipush 99) := ⟨by decide +kernel, rfl⟩
theorem d_X7_readOne_106 : Dc cX7_readOne 106 3 109 (.invokevirtual 163) := ⟨by decide +kernel, rfl⟩
theorem d_X7_readOne_109 : Dc cX7_readOne 109 3 112 (.putfield 178) := ⟨by decide +kernel, rfl⟩
theorem d_X7_readOne_112 : decode cX7_readOne 112 = .ok (.return_, 1) := by decide +kernel
theorem d_X7_readOne_113 : Dc cX7_readOne 113 1 114 (.aload_n 0) := ⟨by decide +kernel, rfl⟩
theorem d_X7_readOne_114 : Dc cX7_readOne 114 1 115 (.aload_n 0) := ⟨by decide +kernel, rfl⟩
theorem d_X7_readOne_115 : Dc cX7_readOne 115 2 117 (.bipush 48) := ⟨by decide +kernel, rfl⟩
theorem d_X7_readOne_117 : Dc cX7_readOne 117 2 119 (.bipush 53) := ⟨by decide +kernel, rfl⟩
theorem d_X7_readOne_119 : Dc cX7_readOne 119 3 122 (.invokevirtual 160) := ⟨by decide +kernel, rfl⟩
theorem d_X7_readOne_122 : Dc cX7_readOne 122 3 125 (.putfield 178) := ⟨by decide +kernel, rfl⟩
theorem d_X7_readOne_125 : Dc cX7_readOne 125 1 126 (.aload_n 0) := ⟨by decide +kernel, rfl⟩
theorem d_X7_readOne_126 : Dc cX7_readOne 126 1 127 (.aload_n 0) := ⟨by decide +kernel, rfl⟩
theorem d_X7_readOne_127 : Dc cX7_readOne 127 2 129 (.bipush 48) := ⟨by decide +kernel, rfl⟩
theorem d_X7_readOne_129 : Dc cX7_readOne 129 2 131 (.bipush 53) := ⟨by decide +kernel, rfl⟩
theorem d_X7_readOne_131 : Dc cX7_readOne 131 3 134 (.invokevirtual 160) := ⟨by decide +kernel, rfl⟩
theorem d_X7_readOne_134 : Dc cX7_readOne 134 3 137 (.putfield 181) := ⟨by decide +kernel, rfl⟩
theorem d_X7_readOne_137 : Dc cX7_readOne 137 1 138 (.aload_n 0) := ⟨by decide +kernel, rfl⟩
theorem d_X7_readOne_138 : Dc cX7_readOne 138 3 141 (.getfield 175) := ⟨by decide +kernel, rfl⟩
theorem d_X7_readOne_141 : Dc cX7_readOne 141 2 143 (.bipush 118) := ⟨by decide +kernel, rfl⟩
theorem d_X7_readOne_143 : Dj cX7_readOne 143 146 153 (.if_icmp .ne) := ⟨10, by decide +kernel, rfl, by decide⟩
theorem d_X7_readOne_146 : Dc cX7_readOne 146 1 147 (.aload_n 0) := ⟨by decide +kernel, rfl⟩
theorem d_X7_readOne_147 : Dc cX7_readOne 147 3 150 (.invokevirtual 184) := ⟨by decide +kernel, rfl⟩
theorem d_X7_readOne_150 : Dj cX7_readOne 150 153 180 .goto := ⟨30, by decide +kernel, rfl, by decide⟩
theorem d_X7_readOne_153 : Dc cX7_readOne 153 1 154 (.aload_n 0) := ⟨by decide +kernel, rfl⟩
theorem d_X7_readOne_154 : Dc cX7_readOne 154 1 155 (.aload_n 0) := ⟨by decide +kernel, rfl⟩
theorem d_X7_readOne_155 : Dc cX7_readOne 155 2 157 (.bipush 33) := ⟨by decide +kernel, rfl⟩
theorem d_X7_readOne_157 : Dc cX7_readOne 157 3 160 (.invokevirtual 187) := ⟨by decide +kernel, rfl⟩
theorem d_X7_readOne_160 : Dc cX7_readOne 160 3 163 (.putfield 166) := ⟨by decide +kernel, rfl⟩
theorem d_X7_readOne_163 : Dc cX7_readOne 163 1 164 (.aload_n 0) := ⟨by decide +kernel, rfl⟩
theorem d_X7_readOne_164 : Dc cX7_readOne 164 1 165 .dup := ⟨by decide +kernel, rfl⟩
theorem d_X7_readOne_165 : Dc cX7_readOne 165 3 168 (.getfield 166) := ⟨by decide +kernel, rfl⟩
theorem d_X7_readOne_168 : Dc cX7_readOne 168 1 169 (.iconst 2) := ⟨by decide +kernel, rfl⟩
theorem d_X7_readOne_169 : Dc cX7_readOne 169 1 170 (.aload_n 0) := ⟨by decide +kernel, rfl⟩
theorem d_X7_readOne_170 : Dc cX7_readOne 170 2 172 (.bipush 63) := ⟨by decide +kernel, rfl⟩
theorem d_X7_readOne_172 : Dc cX7_readOne 172 3 175 (.invokevirtual 187) := ⟨by decide +kernel, rfl⟩
theorem d_X7_readOne_175 : Dc cX7_readOne 175 1 176 .imul := ⟨by decide +kernel, rfl⟩
theorem d_X7_readOne_176 : Dc cX7_readOne 176 1 177 .iadd := ⟨by decide +kernel, rfl⟩
theorem d_X7_readOne_177 : Dc cX7_readOne 177 3 180 (.putfield 166) := ⟨by decide +kernel, rfl⟩
theorem d_X7_readOne_180 : decode cX7_readOne 180 = .ok (.return_, 1) := by decide +kernel
set_option maxHeartbeats 4000000 in
set_option maxRecDepth 20000 in
theorem c_X7_readOne {E : Ev} {n : Nat} {M : Mem} {m : Nat} {s a sn tx : Int → Int} {H : Int → Int → Int} {kn kp ln st se sp wr le f1 f2 f3 f4 f5 sb : Int} (ht : txB tx ln) (hs : 0 ≤ sp ∧ sp ≤ ln) (hw : wr = 0) : MT E yX7_readOne cX7_readOne 1 none 5 0 0 [.ref m] n (md E M m s a (hOf H) sn tx kn kp ln st se sp wr le f1 f2 f3 f4 f5 sb) ((PF none n (md E M m s a (hOf H) sn tx kn kp ln st se ((rd1 tx ln sp f1 f2 f3 f4 f5).1) ((rd1 tx ln sp f1 f2 f3 f4 f5).2.1) ((rd1 tx ln sp f1 f2 f3 f4 f5).2.2.1) ((rd1 tx ln sp f1 f2 f3 f4 f5).2.2.2.1) ((rd1 tx ln sp f1 f2 f3 f4 f5).2.2.2.2.1) ((rd1 tx ln sp f1 f2 f3 f4 f5).2.2.2.2.2.1) ((rd1 tx ln sp f1 f2 f3 f4 f5).2.2.2.2.2.2.1) ((rd1 tx ln sp f1 f2 f3 f4 f5).2.2.2.2.2.2.2) sb))) := by
  refine MT.of (by decide) rfl (Nat.le_of_ble_eq_true rfl) ?_
  intro X g
  have g0 := g.1
  show V E X 0 0 n (md E M m s a (hOf H) sn tx kn kp ln st se sp wr le f1 f2 f3 f4 f5 sb) 0 [some (.ref m)] []
  have htx := ht.2
  have hl := ht.1
  have bL := oL_b (sp := sp) ht hs.1
  have bW := oW_01 tx ln sp
  have bS := oS_b (tx := tx) hs
  have t1 := tk_all (tx := tx) (ln := ln) (sp := oS tx ln sp) (wr := oW tx ln sp) (lo := 48) (hi := 53) (by omega) (by omega)
  rw [show tkS tx ln (oS tx ln sp) (oW tx ln sp) 48 53 = o1s tx ln sp from rfl, show tkW tx ln (oS tx ln sp) (oW tx ln sp) 48 53 = o1w tx ln sp from rfl] at t1
  have t2 := tk_all (tx := tx) (ln := ln) (sp := o1s tx ln sp) (wr := o1w tx ln sp) (lo := 48) (hi := 53) (by omega) (by omega)
  rw [show tkS tx ln (o1s tx ln sp) (o1w tx ln sp) 48 53 = o2s tx ln sp from rfl, show tkW tx ln (o1s tx ln sp) (o1w tx ln sp) 48 53 = o2w tx ln sp from rfl] at t2
  have t3 := tkS_b (tx := tx) (ln := ln) (sp := o2s tx ln sp) (wr := o2w tx ln sp) (lo := 33) (hi := 33) (by omega)
  rw [show tkS tx ln (o2s tx ln sp) (o2w tx ln sp) 33 33 = ocS tx ln sp from rfl] at t3
  have T3 : V E X 0 0 n (md E M m s a (hOf H) sn tx kn kp ln st se (oS tx ln sp) (oW tx ln sp) (oL tx ln sp) f1 f2 f3 f4 f5 sb) 92 [some (.ref m)] [] := by
    refine V.al0 g0 d_X7_readOne_92 ?_
    refine V.getf g0 d_X7_readOne_93 fl_X7_175 (by first | exact md_0 | exact md_1 | exact md_2 | exact md_3 | exact md_4 | exact md_5) (by rfl) ?_
    refine V.bipush g0 d_X7_readOne_96 (by decide) ?_
    refine V.icmpne g0 d_X7_readOne_98 (by omega) (fun c_98 => ?_) (fun c_98 => ?_)
    · skip
      refine V.al0 g0 d_X7_readOne_113 ?_
      refine V.al0 g0 d_X7_readOne_114 ?_
      refine V.bipush g0 d_X7_readOne_115 (by decide) ?_
      refine V.bipush g0 d_X7_readOne_117 (by decide) ?_
      refine V.callVf g0 (c_X7_takes ht (by omega) bW (by decide) (by decide)) ky_X7_takes ki_X7_takes ks2_X7_takes lk_X7_160 (by first | exact md_0 | exact md_1 | exact md_2 | exact md_3 | exact md_4 | exact md_5) rfl rfl (Nat.le_of_ble_eq_true rfl) ⟨Nat.zero_le _, Nat.zero_le _⟩ rfl rfl (Nat.le_of_ble_eq_true rfl) d_X7_readOne_119 ?_
      refine V.putf g0 d_X7_readOne_122 fp_X7_178 (by first | exact md_0 | exact md_1 | exact md_2 | exact md_3 | exact md_4 | exact md_5) (Nat.le_of_ble_eq_true rfl) rfl rfl ?_
      first | refine V.eqM md_u1 ?_ | refine V.eqM md_u2 ?_ | refine V.eqM md_u3 ?_ | refine V.eqM md_u4 ?_ | refine V.eqM md_u5 ?_ | refine V.eqM md_u0 ?_
      refine V.al0 g0 d_X7_readOne_125 ?_
      refine V.al0 g0 d_X7_readOne_126 ?_
      refine V.bipush g0 d_X7_readOne_127 (by decide) ?_
      refine V.bipush g0 d_X7_readOne_129 (by decide) ?_
      refine V.callVf g0 (c_X7_takes ht (sp := o1s tx ln sp) (wr := o1w tx ln sp) (by omega) t1.2.1 (by decide) (by decide)) ky_X7_takes ki_X7_takes ks2_X7_takes lk_X7_160 (by first | exact md_0 | exact md_1 | exact md_2 | exact md_3 | exact md_4 | exact md_5) rfl rfl (Nat.le_of_ble_eq_true rfl) ⟨Nat.zero_le _, Nat.zero_le _⟩ rfl rfl (Nat.le_of_ble_eq_true rfl) d_X7_readOne_131 ?_
      refine V.putf g0 d_X7_readOne_134 fp_X7_181 (by first | exact md_0 | exact md_1 | exact md_2 | exact md_3 | exact md_4 | exact md_5) (Nat.le_of_ble_eq_true rfl) rfl rfl ?_
      first | refine V.eqM md_u1 ?_ | refine V.eqM md_u2 ?_ | refine V.eqM md_u3 ?_ | refine V.eqM md_u4 ?_ | refine V.eqM md_u5 ?_ | refine V.eqM md_u0 ?_
      refine V.al0 g0 d_X7_readOne_137 ?_
      refine V.getf g0 d_X7_readOne_138 fl_X7_175 (by first | exact md_0 | exact md_1 | exact md_2 | exact md_3 | exact md_4 | exact md_5) (by rfl) ?_
      refine V.bipush g0 d_X7_readOne_141 (by decide) ?_
      refine V.icmpne g0 d_X7_readOne_143 (by omega) (fun c_143 => ?_) (fun c_143 => ?_)
      · skip
        have er : rd1 tx ln sp f1 f2 f3 f4 f5 = (ocT tx ln sp, o2w tx ln sp, oL tx ln sp, o1v tx ln sp, o2v tx ln sp, ocA tx ln sp + 2 * ocB tx ln sp, f4, f5) := by unfold rd1; rw [if_neg c_98, if_neg c_143]
        refine V.al0 g0 d_X7_readOne_153 ?_
        refine V.al0 g0 d_X7_readOne_154 ?_
        refine V.bipush g0 d_X7_readOne_155 (by decide) ?_
        refine V.callVf g0 (c_X7_takesOne ht (sp := o2s tx ln sp) (wr := o2w tx ln sp) (by omega) t2.2.1 (by decide)) ky_X7_takesOne ki_X7_takesOne ks2_X7_takesOne lk_X7_187 (by first | exact md_0 | exact md_1 | exact md_2 | exact md_3 | exact md_4 | exact md_5) rfl rfl (Nat.le_of_ble_eq_true rfl) ⟨Nat.zero_le _, Nat.zero_le _⟩ rfl rfl (Nat.le_of_ble_eq_true rfl) d_X7_readOne_157 ?_
        refine V.putf g0 d_X7_readOne_160 fp_X7_166 (by first | exact md_0 | exact md_1 | exact md_2 | exact md_3 | exact md_4 | exact md_5) (Nat.le_of_ble_eq_true rfl) rfl rfl ?_
        first | refine V.eqM md_u1 ?_ | refine V.eqM md_u2 ?_ | refine V.eqM md_u3 ?_ | refine V.eqM md_u4 ?_ | refine V.eqM md_u5 ?_ | refine V.eqM md_u0 ?_
        refine V.al0 g0 d_X7_readOne_163 ?_
        refine V.dup g0 d_X7_readOne_164 rfl ?_
        refine V.getf g0 d_X7_readOne_165 fl_X7_166 (by first | exact md_0 | exact md_1 | exact md_2 | exact md_3 | exact md_4 | exact md_5) (by rfl) ?_
        refine V.iconst g0 d_X7_readOne_168 ?_
        refine V.al0 g0 d_X7_readOne_169 ?_
        refine V.bipush g0 d_X7_readOne_170 (by decide) ?_
        refine V.callVf g0 (c_X7_takesOne ht (sp := ocS tx ln sp) (wr := o2w tx ln sp) (by omega) t2.2.1 (by decide)) ky_X7_takesOne ki_X7_takesOne ks2_X7_takesOne lk_X7_187 (by first | exact md_0 | exact md_1 | exact md_2 | exact md_3 | exact md_4 | exact md_5) rfl rfl (Nat.le_of_ble_eq_true rfl) ⟨Nat.zero_le _, Nat.zero_le _⟩ rfl rfl (Nat.le_of_ble_eq_true rfl) d_X7_readOne_172 ?_
        refine V.imul g0 d_X7_readOne_175 ?_
        refine V.iadd g0 d_X7_readOne_176 ?_
        refine V.putf g0 d_X7_readOne_177 fp_X7_166 (by first | exact md_0 | exact md_1 | exact md_2 | exact md_3 | exact md_4 | exact md_5) (Nat.le_of_ble_eq_true rfl) rfl rfl ?_
        first | refine V.eqM md_u1 ?_ | refine V.eqM md_u2 ?_ | refine V.eqM md_u3 ?_ | refine V.eqM md_u4 ?_ | refine V.eqM md_u5 ?_ | refine V.eqM md_u0 ?_
        refine V.vret g d_X7_readOne_180 (Nat.zero_le _) (Nat.zero_le _) ?_
        rw [er]; exact ⟨rfl, rfl, rfl⟩
      · skip
        have er : rd1 tx ln sp f1 f2 f3 f4 f5 = ((vs3 tx ln (o2s tx ln sp) (o2w tx ln sp)).2.1, (vs3 tx ln (o2s tx ln sp) (o2w tx ln sp)).2.2, oL tx ln sp, o1v tx ln sp, o2v tx ln sp, (vs1 tx ln (o2s tx ln sp) (o2w tx ln sp)).1, (vs2 tx ln (o2s tx ln sp) (o2w tx ln sp)).1, (vs3 tx ln (o2s tx ln sp) (o2w tx ln sp)).1) := by unfold rd1; rw [if_neg c_98, if_pos c_143]
        refine V.al0 g0 d_X7_readOne_146 ?_
        refine V.callVf g0 (c_X7_readVisa ht (sp := o2s tx ln sp) (wr := o2w tx ln sp) (by omega) t2.2.1) ky_X7_readVisa ki_X7_readVisa ks2_X7_readVisa lk_X7_184 (by first | exact md_0 | exact md_1 | exact md_2 | exact md_3 | exact md_4 | exact md_5) rfl rfl (Nat.le_of_ble_eq_true rfl) ⟨Nat.zero_le _, Nat.zero_le _⟩ rfl rfl (Nat.le_of_ble_eq_true rfl) d_X7_readOne_147 ?_
        refine V.goto g0 d_X7_readOne_150 ?_
        refine V.vret g d_X7_readOne_180 (Nat.zero_le _) (Nat.zero_le _) ?_
        rw [er]; exact ⟨rfl, rfl, rfl⟩
    · skip
      have er : rd1 tx ln sp f1 f2 f3 f4 f5 = ((nm tx ln (oS tx ln sp) (oW tx ln sp) 1 99).2.1, (nm tx ln (oS tx ln sp) (oW tx ln sp) 1 99).2.2, oL tx ln sp, (nm tx ln (oS tx ln sp) (oW tx ln sp) 1 99).1, f2, f3, f4, f5) := if_pos c_98
      refine V.al0 g0 d_X7_readOne_101 ?_
      refine V.al0 g0 d_X7_readOne_102 ?_
      refine V.iconst g0 d_X7_readOne_103 ?_
      refine V.bipush g0 d_X7_readOne_104 (by decide) ?_
      refine V.callVf g0 (c_X7_number ht (by omega) bW (by omega) (by omega)) ky_X7_number ki_X7_number ks2_X7_number lk_X7_163 (by first | exact md_0 | exact md_1 | exact md_2 | exact md_3 | exact md_4 | exact md_5) rfl rfl (Nat.le_of_ble_eq_true rfl) ⟨Nat.zero_le _, Nat.zero_le _⟩ rfl rfl (Nat.le_of_ble_eq_true rfl) d_X7_readOne_106 ?_
      refine V.putf g0 d_X7_readOne_109 fp_X7_178 (by first | exact md_0 | exact md_1 | exact md_2 | exact md_3 | exact md_4 | exact md_5) (Nat.le_of_ble_eq_true rfl) rfl rfl ?_
      first | refine V.eqM md_u1 ?_ | refine V.eqM md_u2 ?_ | refine V.eqM md_u3 ?_ | refine V.eqM md_u4 ?_ | refine V.eqM md_u5 ?_ | refine V.eqM md_u0 ?_
      refine V.vret g d_X7_readOne_112 (Nat.zero_le _) (Nat.zero_le _) ?_
      rw [er]; exact ⟨rfl, rfl, rfl⟩
  have T2 : V E X 0 0 n (md E M m s a (hOf H) sn tx kn kp ln st se sp wr (oL tx ln sp) f1 f2 f3 f4 f5 sb) 68 [some (.ref m)] [.int (iI (oW tx ln sp)), .ref m] := by
    refine V.putf g0 d_X7_readOne_68 fp_X7_150 (by first | exact md_0 | exact md_1 | exact md_2 | exact md_3 | exact md_4 | exact md_5) (Nat.le_of_ble_eq_true rfl) (by rcases bW with q | q <;> rw [q] <;> rfl) (by rcases bW with q | q <;> rw [q] <;> rfl) ?_
    first | refine V.eqM md_u1 ?_ | refine V.eqM md_u2 ?_ | refine V.eqM md_u3 ?_ | refine V.eqM md_u4 ?_ | refine V.eqM md_u5 ?_ | refine V.eqM md_u0 ?_
    refine V.al0 g0 d_X7_readOne_71 ?_
    refine V.dup g0 d_X7_readOne_72 rfl ?_
    refine V.getf g0 d_X7_readOne_73 fl_X7_154 (by first | exact md_0 | exact md_1 | exact md_2 | exact md_3 | exact md_4 | exact md_5) (by rfl) ?_
    refine V.al0 g0 d_X7_readOne_76 ?_
    refine V.getf g0 d_X7_readOne_77 fl_X7_150 (by first | exact md_0 | exact md_1 | exact md_2 | exact md_3 | exact md_4 | exact md_5) (by rfl) ?_
    refine V.ifeq g0 d_X7_readOne_80 (by omega) (fun c_80 => ?_) (fun c_80 => ?_)
    · skip
      have es : oS tx ln sp = sp + 1 := by show sp + (1 - oW tx ln sp) = _; rw [c_80]; rfl
      refine V.iconst g0 d_X7_readOne_87 ?_
      refine V.iadd g0 d_X7_readOne_88 ?_
      refine V.putf g0 d_X7_readOne_89 fp_X7_154 (by first | exact md_0 | exact md_1 | exact md_2 | exact md_3 | exact md_4 | exact md_5) (Nat.le_of_ble_eq_true rfl) rfl rfl ?_
      first | refine V.eqM md_u1 ?_ | refine V.eqM md_u2 ?_ | refine V.eqM md_u3 ?_ | refine V.eqM md_u4 ?_ | refine V.eqM md_u5 ?_ | refine V.eqM md_u0 ?_
      rw [es] at T3; exact T3
    · skip
      have es : oS tx ln sp = sp + 0 := by show sp + (1 - oW tx ln sp) = _; rw [show oW tx ln sp = 1 by omega]; rfl
      refine V.iconst g0 d_X7_readOne_83 ?_
      refine V.goto g0 d_X7_readOne_84 ?_
      refine V.iadd g0 d_X7_readOne_88 ?_
      refine V.putf g0 d_X7_readOne_89 fp_X7_154 (by first | exact md_0 | exact md_1 | exact md_2 | exact md_3 | exact md_4 | exact md_5) (Nat.le_of_ble_eq_true rfl) rfl rfl ?_
      first | refine V.eqM md_u1 ?_ | refine V.eqM md_u2 ?_ | refine V.eqM md_u3 ?_ | refine V.eqM md_u4 ?_ | refine V.eqM md_u5 ?_ | refine V.eqM md_u0 ?_
      rw [es] at T3; exact T3
  have T1 : V E X 0 0 n (md E M m s a (hOf H) sn tx kn kp ln st se sp wr le f1 f2 f3 f4 f5 sb) 25 [some (.ref m)] [.int (iI (oL tx ln sp)), .ref m] := by
    refine V.putf g0 d_X7_readOne_25 fp_X7_175 (by first | exact md_0 | exact md_1 | exact md_2 | exact md_3 | exact md_4 | exact md_5) (Nat.le_of_ble_eq_true rfl) rfl rfl ?_
    first | refine V.eqM md_u1 ?_ | refine V.eqM md_u2 ?_ | refine V.eqM md_u3 ?_ | refine V.eqM md_u4 ?_ | refine V.eqM md_u5 ?_ | refine V.eqM md_u0 ?_
    refine V.al0 g0 d_X7_readOne_28 ?_
    refine V.al0 g0 d_X7_readOne_29 ?_
    refine V.getf g0 d_X7_readOne_30 fl_X7_150 (by first | exact md_0 | exact md_1 | exact md_2 | exact md_3 | exact md_4 | exact md_5) (by rfl) ?_
    refine V.ifne g0 d_X7_readOne_33 (by omega) (fun c_33 => ?_) (fun c_33 => ?_)
    · skip
      exfalso; omega
    · skip
      refine V.al0 g0 d_X7_readOne_36 ?_
      refine V.getf g0 d_X7_readOne_37 fl_X7_175 (by first | exact md_0 | exact md_1 | exact md_2 | exact md_3 | exact md_4 | exact md_5) (by rfl) ?_
      refine V.bipush g0 d_X7_readOne_40 (by decide) ?_
      refine V.icmpeq g0 d_X7_readOne_42 (by omega) (fun c_42 => ?_) (fun c_42 => ?_)
      · skip
        have ew : oW tx ln sp = 0 := bI_f (by omega)
        refine V.iconst g0 d_X7_readOne_67 ?_
        rw [ew] at T2; exact T2
      · skip
        refine V.al0 g0 d_X7_readOne_45 ?_
        refine V.getf g0 d_X7_readOne_46 fl_X7_175 (by first | exact md_0 | exact md_1 | exact md_2 | exact md_3 | exact md_4 | exact md_5) (by rfl) ?_
        refine V.bipush g0 d_X7_readOne_49 (by decide) ?_
        refine V.icmpeq g0 d_X7_readOne_51 (by omega) (fun c_51 => ?_) (fun c_51 => ?_)
        · skip
          have ew : oW tx ln sp = 0 := bI_f (by omega)
          refine V.iconst g0 d_X7_readOne_67 ?_
          rw [ew] at T2; exact T2
        · skip
          refine V.al0 g0 d_X7_readOne_54 ?_
          refine V.getf g0 d_X7_readOne_55 fl_X7_175 (by first | exact md_0 | exact md_1 | exact md_2 | exact md_3 | exact md_4 | exact md_5) (by rfl) ?_
          refine V.bipush g0 d_X7_readOne_58 (by decide) ?_
          refine V.icmpeq g0 d_X7_readOne_60 (by omega) (fun c_60 => ?_) (fun c_60 => ?_)
          · skip
            have ew : oW tx ln sp = 0 := bI_f (by omega)
            refine V.iconst g0 d_X7_readOne_67 ?_
            rw [ew] at T2; exact T2
          · skip
            have ew : oW tx ln sp = 1 := bI_t (by omega)
            refine V.iconst g0 d_X7_readOne_63 ?_
            refine V.goto g0 d_X7_readOne_64 ?_
            rw [ew] at T2; exact T2
  refine V.al0 g0 d_X7_readOne_0 ?_
  refine V.al0 g0 d_X7_readOne_1 ?_
  refine V.getf g0 d_X7_readOne_2 fl_X7_154 (by first | exact md_0 | exact md_1 | exact md_2 | exact md_3 | exact md_4 | exact md_5) (by rfl) ?_
  refine V.al0 g0 d_X7_readOne_5 ?_
  refine V.getf g0 d_X7_readOne_6 fl_X7_147 (by first | exact md_0 | exact md_1 | exact md_2 | exact md_3 | exact md_4 | exact md_5) (by rfl) ?_
  refine V.icmpge g0 d_X7_readOne_9 (by omega) (fun c_9 => ?_) (fun c_9 => ?_)
  · skip
    refine V.iconst g0 d_X7_readOne_24 ?_
    have e0 : oL tx ln sp = 0 := if_neg (by omega)
    rw [e0] at T1; exact T1
  · skip
    refine V.al0 g0 d_X7_readOne_12 ?_
    refine V.getf g0 d_X7_readOne_13 fl_X7_22 (by first | exact md_0 | exact md_1 | exact md_2 | exact md_3 | exact md_4 | exact md_5) (by rfl) ?_
    refine V.al0 g0 d_X7_readOne_16 ?_
    refine V.getf g0 d_X7_readOne_17 fl_X7_154 (by first | exact md_0 | exact md_1 | exact md_2 | exact md_3 | exact md_4 | exact md_5) (by rfl) ?_
    refine V.iald g0 d_X7_readOne_20 (by first | exact md_0 | exact md_1 | exact md_2 | exact md_3 | exact md_4 | exact md_5) (by omega) (by decide) ?_
    refine V.goto g0 d_X7_readOne_21 ?_
    rw [show tx sp = oL tx ln sp from (if_pos (by omega)).symm]; exact T1

theorem d_X7_errorOfOne_0 : Dc cX7_errorOfOne 0 1 1 (.aload_n 0) := ⟨by decide +kernel, rfl⟩
theorem d_X7_errorOfOne_1 : Dc cX7_errorOfOne 1 3 4 (.getfield 175) := ⟨by decide +kernel, rfl⟩
theorem d_X7_errorOfOne_4 : Dc cX7_errorOfOne 4 2 6 (.bipush 46) := ⟨by decide +kernel, rfl⟩
theorem d_X7_errorOfOne_6 : Dj cX7_errorOfOne 6 9 20 (.if_icmp .ne) := ⟨14, by decide +kernel, rfl, by decide⟩
theorem d_X7_errorOfOne_9 : Dc cX7_errorOfOne 9 1 10 (.aload_n 0) := ⟨by decide +kernel, rfl⟩
theorem d_X7_errorOfOne_10 : Dc cX7_errorOfOne 10 1 11 (.aload_n 0) := ⟨by decide +kernel, rfl⟩
theorem d_X7_errorOfOne_11 : Dc cX7_errorOfOne 11 3 14 (.getfield 178) := ⟨by decide +kernel, rfl⟩
theorem d_X7_errorOfOne_14 : Dc cX7_errorOfOne 14 3 17 (.invokevirtual 140) := ⟨by decide +kernel, rfl⟩
theorem d_X7_errorOfOne_17 : Dj cX7_errorOfOne 17 20 72 .goto := ⟨55, by decide +kernel, rfl, by decide⟩
theorem d_X7_errorOfOne_20 : Dc cX7_errorOfOne 20 1 21 (.aload_n 0) := ⟨by decide +kernel, rfl⟩
theorem d_X7_errorOfOne_21 : Dc cX7_errorOfOne 21 3 24 (.getfield 175) := ⟨by decide +kernel, rfl⟩
theorem d_X7_errorOfOne_24 : Dc cX7_errorOfOne 24 2 26 (.bipush 120) := ⟨by decide +kernel, rfl⟩
theorem d_X7_errorOfOne_26 : Dj cX7_errorOfOne 26 29 48 (.if_icmp .ne) := ⟨22, by decide +kernel, rfl, by decide⟩
theorem d_X7_errorOfOne_29 : Dc cX7_errorOfOne 29 1 30 (.aload_n 0) := ⟨by decide +kernel, rfl⟩
theorem d_X7_errorOfOne_30 : Dc cX7_errorOfOne 30 1 31 (.aload_n 0) := ⟨by decide +kernel, rfl⟩
theorem d_X7_errorOfOne_31 : Dc cX7_errorOfOne 31 3 34 (.getfield 178) := ⟨by decide +kernel, rfl⟩
theorem d_X7_errorOfOne_34 : Dc cX7_errorOfOne 34 1 35 (.aload_n 0) := ⟨by decide +kernel, rfl⟩
theorem d_X7_errorOfOne_35 : Dc cX7_errorOfOne 35 3 38 (.getfield 181) := ⟨by decide +kernel, rfl⟩
theorem d_X7_errorOfOne_38 : Dc cX7_errorOfOne 38 1 39 (.aload_n 0) := ⟨by decide +kernel, rfl⟩
theorem d_X7_errorOfOne_39 : Dc cX7_errorOfOne 39 3 42 (.getfield 166) := ⟨by decide +kernel, rfl⟩
theorem d_X7_errorOfOne_42 : Dc cX7_errorOfOne 42 3 45 (.invokevirtual 134) := ⟨by decide +kernel, rfl⟩
theorem d_X7_errorOfOne_45 : Dj cX7_errorOfOne 45 48 72 .goto := ⟨27, by decide +kernel, rfl, by decide⟩
theorem d_X7_errorOfOne_48 : Dc cX7_errorOfOne 48 1 49 (.aload_n 0) := ⟨by decide +kernel, rfl⟩
theorem d_X7_errorOfOne_49 : Dc cX7_errorOfOne 49 1 50 (.aload_n 0) := ⟨by decide +kernel, rfl⟩
theorem d_X7_errorOfOne_50 : Dc cX7_errorOfOne 50 3 53 (.getfield 178) := ⟨by decide +kernel, rfl⟩
theorem d_X7_errorOfOne_53 : Dc cX7_errorOfOne 53 1 54 (.aload_n 0) := ⟨by decide +kernel, rfl⟩
theorem d_X7_errorOfOne_54 : Dc cX7_errorOfOne 54 3 57 (.getfield 181) := ⟨by decide +kernel, rfl⟩
theorem d_X7_errorOfOne_57 : Dc cX7_errorOfOne 57 1 58 (.aload_n 0) := ⟨by decide +kernel, rfl⟩
theorem d_X7_errorOfOne_58 : Dc cX7_errorOfOne 58 3 61 (.getfield 166) := ⟨by decide +kernel, rfl⟩
theorem d_X7_errorOfOne_61 : Dc cX7_errorOfOne 61 1 62 (.aload_n 0) := ⟨by decide +kernel, rfl⟩
theorem d_X7_errorOfOne_62 : Dc cX7_errorOfOne 62 3 65 (.getfield 169) := ⟨by decide +kernel, rfl⟩
theorem d_X7_errorOfOne_65 : Dc cX7_errorOfOne 65 1 66 (.aload_n 0) := ⟨by decide +kernel, rfl⟩
theorem d_X7_errorOfOne_66 : Dc cX7_errorOfOne 66 3 69 (.getfield 172) := ⟨by decide +kernel, rfl⟩
theorem d_X7_errorOfOne_69 : Dc cX7_errorOfOne 69 3 72 (.invokevirtual 124) := ⟨by decide +kernel, rfl⟩
theorem d_X7_errorOfOne_72 : decode cX7_errorOfOne 72 = .ok (.ireturn, 1) := by decide +kernel
set_option maxHeartbeats 4000000 in
set_option maxRecDepth 20000 in
theorem c_X7_errorOfOne {E : Ev} {n : Nat} {M : Mem} {m : Nat} {s a sn tx : Int → Int} {H : Int → Int → Int} {kn kp ln st se sp wr le f1 f2 f3 f4 f5 sb : Int} (hO : Ok s) (h1 : rg f1) (h2 : le ≠ 46 → rg f2 ∧ rg f3) (h3 : le ≠ 46 → le ≠ 120 → rg f4 ∧ rg f5) (hle : rg le) : MT E yX7_errorOfOne cX7_errorOfOne 1 (some .int) 11 0 0 [.ref m] n (md E M m s a (hOf H) sn tx kn kp ln st se sp wr le f1 f2 f3 f4 f5 sb) (PF (some (.int (iI (errOne s le f1 f2 f3 f4 f5)))) n (md E M m s a (hOf H) sn tx kn kp ln st se sp wr le f1 f2 f3 f4 f5 sb)) := by
  refine MT.of (by decide) rfl (Nat.le_of_ble_eq_true rfl) ?_
  intro X g
  have g0 := g.1
  show V E X 0 0 n (md E M m s a (hOf H) sn tx kn kp ln st se sp wr le f1 f2 f3 f4 f5 sb) 0 [some (.ref m)] []
  refine V.al0 g0 d_X7_errorOfOne_0 ?_
  refine V.getf g0 d_X7_errorOfOne_1 fl_X7_175 (by first | exact md_0 | exact md_1 | exact md_2 | exact md_3 | exact md_4 | exact md_5) (by rfl) ?_
  refine V.bipush g0 d_X7_errorOfOne_4 (by decide) ?_
  refine V.icmpne g0 d_X7_errorOfOne_6 (by omega) (fun c_6 => ?_) (fun c_6 => ?_)
  · skip
    refine V.al0 g0 d_X7_errorOfOne_20 ?_
    refine V.getf g0 d_X7_errorOfOne_21 fl_X7_175 (by first | exact md_0 | exact md_1 | exact md_2 | exact md_3 | exact md_4 | exact md_5) (by rfl) ?_
    refine V.bipush g0 d_X7_errorOfOne_24 (by decide) ?_
    refine V.icmpne g0 d_X7_errorOfOne_26 (by omega) (fun c_26 => ?_) (fun c_26 => ?_)
    · skip
      refine V.al0 g0 d_X7_errorOfOne_48 ?_
      refine V.al0 g0 d_X7_errorOfOne_49 ?_
      refine V.getf g0 d_X7_errorOfOne_50 fl_X7_178 (by first | exact md_0 | exact md_1 | exact md_2 | exact md_3 | exact md_4 | exact md_5) (by rfl) ?_
      refine V.al0 g0 d_X7_errorOfOne_53 ?_
      refine V.getf g0 d_X7_errorOfOne_54 fl_X7_181 (by first | exact md_0 | exact md_1 | exact md_2 | exact md_3 | exact md_4 | exact md_5) (by rfl) ?_
      refine V.al0 g0 d_X7_errorOfOne_57 ?_
      refine V.getf g0 d_X7_errorOfOne_58 fl_X7_166 (by first | exact md_0 | exact md_1 | exact md_2 | exact md_3 | exact md_4 | exact md_5) (by rfl) ?_
      refine V.al0 g0 d_X7_errorOfOne_61 ?_
      refine V.getf g0 d_X7_errorOfOne_62 fl_X7_169 (by first | exact md_0 | exact md_1 | exact md_2 | exact md_3 | exact md_4 | exact md_5) (by rfl) ?_
      refine V.al0 g0 d_X7_errorOfOne_65 ?_
      refine V.getf g0 d_X7_errorOfOne_66 fl_X7_172 (by first | exact md_0 | exact md_1 | exact md_2 | exact md_3 | exact md_4 | exact md_5) (by rfl) ?_
      refine V.callVp g0 (c_X7_errorOfGrant md_MS hO h1 (h2 c_6).1 (h2 c_6).2 (h3 c_6 c_26).1 (h3 c_6 c_26).2) ky_X7_errorOfGrant ki_X7_errorOfGrant ks2_X7_errorOfGrant lk_X7_124 (by first | exact md_0 | exact md_1 | exact md_2 | exact md_3 | exact md_4 | exact md_5) rfl rfl (Nat.le_of_ble_eq_true rfl) ⟨Nat.zero_le _, Nat.zero_le _⟩ rfl rfl (Nat.le_of_ble_eq_true rfl) d_X7_errorOfOne_69 ?_
      refine V.iret g d_X7_errorOfOne_72 (Nat.zero_le _) (Nat.zero_le _) ⟨congrArg (fun z => some (Value.int (iI z))) ?_, rfl, rfl⟩
      rw [errOne, if_neg c_6, if_neg c_26]
    · skip
      refine V.al0 g0 d_X7_errorOfOne_29 ?_
      refine V.al0 g0 d_X7_errorOfOne_30 ?_
      refine V.getf g0 d_X7_errorOfOne_31 fl_X7_178 (by first | exact md_0 | exact md_1 | exact md_2 | exact md_3 | exact md_4 | exact md_5) (by rfl) ?_
      refine V.al0 g0 d_X7_errorOfOne_34 ?_
      refine V.getf g0 d_X7_errorOfOne_35 fl_X7_181 (by first | exact md_0 | exact md_1 | exact md_2 | exact md_3 | exact md_4 | exact md_5) (by rfl) ?_
      refine V.al0 g0 d_X7_errorOfOne_38 ?_
      refine V.getf g0 d_X7_errorOfOne_39 fl_X7_166 (by first | exact md_0 | exact md_1 | exact md_2 | exact md_3 | exact md_4 | exact md_5) (by rfl) ?_
      refine V.callVp g0 (c_X7_errorOfCross md_MS hO h1 (h2 c_6).1 (h2 c_6).2) ky_X7_errorOfCross ki_X7_errorOfCross ks2_X7_errorOfCross lk_X7_134 (by first | exact md_0 | exact md_1 | exact md_2 | exact md_3 | exact md_4 | exact md_5) rfl rfl (Nat.le_of_ble_eq_true rfl) ⟨Nat.zero_le _, Nat.zero_le _⟩ rfl rfl (Nat.le_of_ble_eq_true rfl) d_X7_errorOfOne_42 ?_
      refine V.goto g0 d_X7_errorOfOne_45 ?_
      refine V.iret g d_X7_errorOfOne_72 (Nat.zero_le _) (Nat.zero_le _) ⟨congrArg (fun z => some (Value.int (iI z))) ?_, rfl, rfl⟩
      rw [errOne, if_neg c_6, if_pos c_26]
  · skip
    refine V.al0 g0 d_X7_errorOfOne_9 ?_
    refine V.al0 g0 d_X7_errorOfOne_10 ?_
    refine V.getf g0 d_X7_errorOfOne_11 fl_X7_178 (by first | exact md_0 | exact md_1 | exact md_2 | exact md_3 | exact md_4 | exact md_5) (by rfl) ?_
    refine V.callVp g0 (c_X7_errorOfPass md_MS hO h1) ky_X7_errorOfPass ki_X7_errorOfPass ks2_X7_errorOfPass lk_X7_140 (by first | exact md_0 | exact md_1 | exact md_2 | exact md_3 | exact md_4 | exact md_5) rfl rfl (Nat.le_of_ble_eq_true rfl) ⟨Nat.zero_le _, Nat.zero_le _⟩ rfl rfl (Nat.le_of_ble_eq_true rfl) d_X7_errorOfOne_14 ?_
    refine V.goto g0 d_X7_errorOfOne_17 ?_
    refine V.iret g d_X7_errorOfOne_72 (Nat.zero_le _) (Nat.zero_le _) ⟨congrArg (fun z => some (Value.int (iI z))) ?_, rfl, rfl⟩
    rw [errOne, if_pos c_6]

theorem d_X7_doesOne_0 : Dc cX7_doesOne 0 1 1 (.aload_n 0) := ⟨by decide +kernel, rfl⟩
theorem d_X7_doesOne_1 : Dc cX7_doesOne 1 3 4 (.getfield 175) := ⟨by decide +kernel, rfl⟩
theorem d_X7_doesOne_4 : Dc cX7_doesOne 4 2 6 (.bipush 46) := ⟨by decide +kernel, rfl⟩
theorem d_X7_doesOne_6 : Dj cX7_doesOne 6 9 20 (.if_icmp .ne) := ⟨14, by decide +kernel, rfl, by decide⟩
theorem d_X7_doesOne_9 : Dc cX7_doesOne 9 1 10 (.aload_n 0) := ⟨by decide +kernel, rfl⟩
theorem d_X7_doesOne_10 : Dc cX7_doesOne 10 1 11 (.aload_n 0) := ⟨by decide +kernel, rfl⟩
theorem d_X7_doesOne_11 : Dc cX7_doesOne 11 3 14 (.getfield 178) := ⟨by decide +kernel, rfl⟩
theorem d_X7_doesOne_14 : Dc cX7_doesOne 14 3 17 (.invokevirtual 144) := ⟨by decide +kernel, rfl⟩
theorem d_X7_doesOne_17 : Dj cX7_doesOne 17 20 72 .goto := ⟨55, by decide +kernel, rfl, by decide⟩
theorem d_X7_doesOne_20 : Dc cX7_doesOne 20 1 21 (.aload_n 0) := ⟨by decide +kernel, rfl⟩
theorem d_X7_doesOne_21 : Dc cX7_doesOne 21 3 24 (.getfield 175) := ⟨by decide +kernel, rfl⟩
theorem d_X7_doesOne_24 : Dc cX7_doesOne 24 2 26 (.bipush 120) := ⟨by decide +kernel, rfl⟩
theorem d_X7_doesOne_26 : Dj cX7_doesOne 26 29 48 (.if_icmp .ne) := ⟨22, by decide +kernel, rfl, by decide⟩
theorem d_X7_doesOne_29 : Dc cX7_doesOne 29 1 30 (.aload_n 0) := ⟨by decide +kernel, rfl⟩
theorem d_X7_doesOne_30 : Dc cX7_doesOne 30 1 31 (.aload_n 0) := ⟨by decide +kernel, rfl⟩
theorem d_X7_doesOne_31 : Dc cX7_doesOne 31 3 34 (.getfield 178) := ⟨by decide +kernel, rfl⟩
theorem d_X7_doesOne_34 : Dc cX7_doesOne 34 1 35 (.aload_n 0) := ⟨by decide +kernel, rfl⟩
theorem d_X7_doesOne_35 : Dc cX7_doesOne 35 3 38 (.getfield 181) := ⟨by decide +kernel, rfl⟩
theorem d_X7_doesOne_38 : Dc cX7_doesOne 38 1 39 (.aload_n 0) := ⟨by decide +kernel, rfl⟩
theorem d_X7_doesOne_39 : Dc cX7_doesOne 39 3 42 (.getfield 166) := ⟨by decide +kernel, rfl⟩
theorem d_X7_doesOne_42 : Dc cX7_doesOne 42 3 45 (.invokevirtual 137) := ⟨by decide +kernel, rfl⟩
theorem d_X7_doesOne_45 : Dj cX7_doesOne 45 48 72 .goto := ⟨27, by decide +kernel, rfl, by decide⟩
theorem d_X7_doesOne_48 : Dc cX7_doesOne 48 1 49 (.aload_n 0) := ⟨by decide +kernel, rfl⟩
theorem d_X7_doesOne_49 : Dc cX7_doesOne 49 1 50 (.aload_n 0) := ⟨by decide +kernel, rfl⟩
theorem d_X7_doesOne_50 : Dc cX7_doesOne 50 3 53 (.getfield 178) := ⟨by decide +kernel, rfl⟩
theorem d_X7_doesOne_53 : Dc cX7_doesOne 53 1 54 (.aload_n 0) := ⟨by decide +kernel, rfl⟩
theorem d_X7_doesOne_54 : Dc cX7_doesOne 54 3 57 (.getfield 181) := ⟨by decide +kernel, rfl⟩
theorem d_X7_doesOne_57 : Dc cX7_doesOne 57 1 58 (.aload_n 0) := ⟨by decide +kernel, rfl⟩
theorem d_X7_doesOne_58 : Dc cX7_doesOne 58 3 61 (.getfield 166) := ⟨by decide +kernel, rfl⟩
theorem d_X7_doesOne_61 : Dc cX7_doesOne 61 1 62 (.aload_n 0) := ⟨by decide +kernel, rfl⟩
theorem d_X7_doesOne_62 : Dc cX7_doesOne 62 3 65 (.getfield 169) := ⟨by decide +kernel, rfl⟩
theorem d_X7_doesOne_65 : Dc cX7_doesOne 65 1 66 (.aload_n 0) := ⟨by decide +kernel, rfl⟩
theorem d_X7_doesOne_66 : Dc cX7_doesOne 66 3 69 (.getfield 172) := ⟨by decide +kernel, rfl⟩
theorem d_X7_doesOne_69 : Dc cX7_doesOne 69 3 72 (.invokevirtual 127) := ⟨by decide +kernel, rfl⟩
theorem d_X7_doesOne_72 : decode cX7_doesOne 72 = .ok (.ireturn, 1) := by decide +kernel
set_option maxHeartbeats 4000000 in
set_option maxRecDepth 20000 in
theorem c_X7_doesOne {E : Ev} {n : Nat} {M : Mem} {m : Nat} {s a sn tx : Int → Int} {H : Int → Int → Int} {kn kp ln st se sp wr le f1 f2 f3 f4 f5 sb : Int} (hO : Ok s) (hle : rg le) (he : errOne s le f1 f2 f3 f4 f5 = 0) : MT E yX7_doesOne cX7_doesOne 1 (some .int) 9 0 0 [.ref m] n (md E M m s a (hOf H) sn tx kn kp ln st se sp wr le f1 f2 f3 f4 f5 sb) ((PF (some (.int (iI ((doOne s le f1 f2 f3 f4 f5).1)))) n (md E M m ((doOne s le f1 f2 f3 f4 f5).2) a (hOf H) sn tx kn kp ln st se sp wr le f1 f2 f3 f4 f5 sb))) := by
  refine MT.of (by decide) rfl (Nat.le_of_ble_eq_true rfl) ?_
  intro X g
  have g0 := g.1
  show V E X 0 0 n (md E M m s a (hOf H) sn tx kn kp ln st se sp wr le f1 f2 f3 f4 f5 sb) 0 [some (.ref m)] []
  unfold errOne at he
  refine V.al0 g0 d_X7_doesOne_0 ?_
  refine V.getf g0 d_X7_doesOne_1 fl_X7_175 (by first | exact md_0 | exact md_1 | exact md_2 | exact md_3 | exact md_4 | exact md_5) (by rfl) ?_
  refine V.bipush g0 d_X7_doesOne_4 (by decide) ?_
  refine V.icmpne g0 d_X7_doesOne_6 (by omega) (fun c_6 => ?_) (fun c_6 => ?_)
  · skip
    rw [if_neg c_6] at he
    refine V.al0 g0 d_X7_doesOne_20 ?_
    refine V.getf g0 d_X7_doesOne_21 fl_X7_175 (by first | exact md_0 | exact md_1 | exact md_2 | exact md_3 | exact md_4 | exact md_5) (by rfl) ?_
    refine V.bipush g0 d_X7_doesOne_24 (by decide) ?_
    refine V.icmpne g0 d_X7_doesOne_26 (by omega) (fun c_26 => ?_) (fun c_26 => ?_)
    · skip
      rw [if_neg c_26] at he
      have hg := errGrant_ok he
      refine V.al0 g0 d_X7_doesOne_48 ?_
      refine V.al0 g0 d_X7_doesOne_49 ?_
      refine V.getf g0 d_X7_doesOne_50 fl_X7_178 (by first | exact md_0 | exact md_1 | exact md_2 | exact md_3 | exact md_4 | exact md_5) (by rfl) ?_
      refine V.al0 g0 d_X7_doesOne_53 ?_
      refine V.getf g0 d_X7_doesOne_54 fl_X7_181 (by first | exact md_0 | exact md_1 | exact md_2 | exact md_3 | exact md_4 | exact md_5) (by rfl) ?_
      refine V.al0 g0 d_X7_doesOne_57 ?_
      refine V.getf g0 d_X7_doesOne_58 fl_X7_166 (by first | exact md_0 | exact md_1 | exact md_2 | exact md_3 | exact md_4 | exact md_5) (by rfl) ?_
      refine V.al0 g0 d_X7_doesOne_61 ?_
      refine V.getf g0 d_X7_doesOne_62 fl_X7_169 (by first | exact md_0 | exact md_1 | exact md_2 | exact md_3 | exact md_4 | exact md_5) (by rfl) ?_
      refine V.al0 g0 d_X7_doesOne_65 ?_
      refine V.getf g0 d_X7_doesOne_66 fl_X7_172 (by first | exact md_0 | exact md_1 | exact md_2 | exact md_3 | exact md_4 | exact md_5) (by rfl) ?_
      refine V.callVf g0 (c_X7_grants md_MS hO hg.1 hg.2.1 hg.2.2.1 hg.2.2.2.1 hg.2.2.2.2.1) ky_X7_grants ki_X7_grants ks2_X7_grants lk_X7_127 (by first | exact md_0 | exact md_1 | exact md_2 | exact md_3 | exact md_4 | exact md_5) rfl rfl (Nat.le_of_ble_eq_true rfl) ⟨Nat.zero_le _, Nat.zero_le _⟩ rfl rfl (Nat.le_of_ble_eq_true rfl) d_X7_doesOne_69 ?_
      refine V.eqM md_u1 ?_
      refine V.iret g d_X7_doesOne_72 (Nat.zero_le _) (Nat.zero_le _) ?_
      rw [show doOne s le f1 f2 f3 f4 f5 = _ from (if_neg c_6).trans (if_neg c_26)]; exact ⟨rfl, rfl, rfl⟩
    · skip
      rw [if_pos c_26] at he
      have hg := errCross_ok hO he
      refine V.al0 g0 d_X7_doesOne_29 ?_
      refine V.al0 g0 d_X7_doesOne_30 ?_
      refine V.getf g0 d_X7_doesOne_31 fl_X7_178 (by first | exact md_0 | exact md_1 | exact md_2 | exact md_3 | exact md_4 | exact md_5) (by rfl) ?_
      refine V.al0 g0 d_X7_doesOne_34 ?_
      refine V.getf g0 d_X7_doesOne_35 fl_X7_181 (by first | exact md_0 | exact md_1 | exact md_2 | exact md_3 | exact md_4 | exact md_5) (by rfl) ?_
      refine V.al0 g0 d_X7_doesOne_38 ?_
      refine V.getf g0 d_X7_doesOne_39 fl_X7_166 (by first | exact md_0 | exact md_1 | exact md_2 | exact md_3 | exact md_4 | exact md_5) (by rfl) ?_
      refine V.callVf g0 (c_X7_crosses md_MS (hO.at hg.1.1 hg.1.2) (by have := hO.many; omega) hg.2.1 hg.2.2.1 hg.2.2.2.2.1 hg.2.2.2.2.2.1) ky_X7_crosses ki_X7_crosses ks2_X7_crosses lk_X7_137 (by first | exact md_0 | exact md_1 | exact md_2 | exact md_3 | exact md_4 | exact md_5) rfl rfl (Nat.le_of_ble_eq_true rfl) ⟨Nat.zero_le _, Nat.zero_le _⟩ rfl rfl (Nat.le_of_ble_eq_true rfl) d_X7_doesOne_42 ?_
      refine V.eqM md_u1 ?_
      refine V.goto g0 d_X7_doesOne_45 ?_
      refine V.iret g d_X7_doesOne_72 (Nat.zero_le _) (Nat.zero_le _) ?_
      rw [show doOne s le f1 f2 f3 f4 f5 = _ from (if_neg c_6).trans (if_pos c_26)]; exact ⟨rfl, rfl, rfl⟩
  · skip
    rw [if_pos c_6] at he
    have hg := errPass_ok he
    refine V.al0 g0 d_X7_doesOne_9 ?_
    refine V.al0 g0 d_X7_doesOne_10 ?_
    refine V.getf g0 d_X7_doesOne_11 fl_X7_178 (by first | exact md_0 | exact md_1 | exact md_2 | exact md_3 | exact md_4 | exact md_5) (by rfl) ?_
    refine V.callVf g0 (c_X7_passes md_MS hO hg.1 hg.2) ky_X7_passes ki_X7_passes ks2_X7_passes lk_X7_144 (by first | exact md_0 | exact md_1 | exact md_2 | exact md_3 | exact md_4 | exact md_5) rfl rfl (Nat.le_of_ble_eq_true rfl) ⟨Nat.zero_le _, Nat.zero_le _⟩ rfl rfl (Nat.le_of_ble_eq_true rfl) d_X7_doesOne_14 ?_
    refine V.eqM md_u1 ?_
    refine V.goto g0 d_X7_doesOne_17 ?_
    refine V.iret g d_X7_doesOne_72 (Nat.zero_le _) (Nat.zero_le _) ?_
    rw [show doOne s le f1 f2 f3 f4 f5 = _ from if_pos c_6]; exact ⟨rfl, rfl, rfl⟩

theorem d_X7_reads_0 : Dc cX7_reads 0 1 1 (.aload_n 0) := ⟨by decide +kernel, rfl⟩
theorem d_X7_reads_1 : Dc cX7_reads 1 1 2 (.iconst 0) := ⟨by decide +kernel, rfl⟩
theorem d_X7_reads_2 : Dc cX7_reads 2 3 5 (.putfield 154) := ⟨by decide +kernel, rfl⟩
theorem d_X7_reads_5 : Dc cX7_reads 5 1 6 (.aload_n 0) := ⟨by decide +kernel, rfl⟩
theorem d_X7_reads_6 : Dc cX7_reads 6 1 7 (.iconst 0) := ⟨by decide +kernel, rfl⟩
theorem d_X7_reads_7 : Dc cX7_reads 7 3 10 (.putfield 150) := ⟨by decide +kernel, rfl⟩
theorem d_X7_reads_10 : Dc cX7_reads 10 1 11 (.aload_n 0) := ⟨by decide +kernel, rfl⟩
theorem d_X7_reads_11 : Dc cX7_reads 11 1 12 (.iconst 0) := ⟨by decide +kernel, rfl⟩
theorem d_X7_reads_12 : Dc cX7_reads 12 3 15 (.putfield 190) := ⟨by decide +kernel, rfl⟩
theorem d_X7_reads_15 : Dc cX7_reads 15 1 16 (.iconst 0) := ⟨by decide +kernel, rfl⟩
theorem d_X7_reads_16 : Dc cX7_reads 16 1 17 (.istore_n 2) := ⟨by decide +kernel, rfl⟩
theorem d_X7_reads_17 : Dc cX7_reads 17 1 18 (.iconst 1) := ⟨by decide +kernel, rfl⟩
theorem d_X7_reads_18 : Dc cX7_reads 18 1 19 (.istore_n 3) := ⟨by decide +kernel, rfl⟩
theorem d_X7_reads_19 : Dc cX7_reads 19 1 20 (.iload_n 3) := ⟨by decide +kernel, rfl⟩
theorem d_X7_reads_20 : Dj cX7_reads 20 23 144 (.ifCond .eq) := ⟨124, by decide +kernel, rfl, by decide⟩
theorem d_X7_reads_23 : Dc cX7_reads 23 1 24 (.aload_n 0) := ⟨by decide +kernel, rfl⟩
theorem d_X7_reads_24 : Dc cX7_reads 24 3 27 (.invokevirtual 193) := ⟨by decide +kernel, rfl⟩
theorem d_X7_reads_27 : Dc cX7_reads 27 1 28 (.aload_n 0) := ⟨by decide +kernel, rfl⟩
theorem d_X7_reads_28 : Dc cX7_reads 28 1 29 (.iload_n 1) := ⟨by decide +kernel, rfl⟩
theorem d_X7_reads_29 : Dj cX7_reads 29 32 39 (.ifCond .eq) := ⟨10, by decide +kernel, rfl, by decide⟩
theorem d_X7_reads_32 : Dc cX7_reads 32 1 33 (.aload_n 0) := ⟨by decide +kernel, rfl⟩
theorem d_X7_reads_33 : Dc cX7_reads 33 3 36 (.invokevirtual 196) := ⟨by decide +kernel, rfl⟩
theorem d_X7_reads_36 : Dj cX7_reads 36 39 40 .goto := ⟨4, by decide +kernel, rfl, by decide⟩
theorem d_X7_reads_39 : Dc cX7_reads 39 1 40 (.iconst 0) := ⟨by decide +kernel, rfl⟩
theorem d_X7_reads_40 : Dc cX7_reads 40 3 43 (.putfield 190) := ⟨by decide +kernel, rfl⟩
theorem d_X7_reads_43 : Dc cX7_reads 43 1 44 (.aload_n 0) := ⟨by decide +kernel, rfl⟩
theorem d_X7_reads_44 : Dc cX7_reads 44 3 47 (.getfield 150) := ⟨by decide +kernel, rfl⟩
theorem d_X7_reads_47 : Dj cX7_reads 47 50 61 (.ifCond .ne) := ⟨14, by decide +kernel, rfl, by decide⟩
theorem d_X7_reads_50 : Dc cX7_reads 50 1 51 (.aload_n 0) := ⟨by decide +kernel, rfl⟩
theorem d_X7_reads_51 : Dc cX7_reads 51 3 54 (.getfield 190) := ⟨by decide +kernel, rfl⟩
theorem d_X7_reads_54 : Dj cX7_reads 54 57 61 (.ifCond .ne) := ⟨7, by decide +kernel, rfl, by decide⟩
theorem d_X7_reads_57 : Dc cX7_reads 57 1 58 (.iconst 1) := ⟨by decide +kernel, rfl⟩
theorem d_X7_reads_58 : Dj cX7_reads 58 61 62 .goto := ⟨4, by decide +kernel, rfl, by decide⟩
theorem d_X7_reads_61 : Dc cX7_reads 61 1 62 (.iconst 0) := ⟨by decide +kernel, rfl⟩
theorem d_X7_reads_62 : Dc cX7_reads 62 1 63 (.istore_n 3) := ⟨by decide +kernel, rfl⟩
theorem d_X7_reads_63 : Dc cX7_reads 63 1 64 (.iload_n 3) := ⟨by decide +kernel, rfl⟩
theorem d_X7_reads_64 : Dj cX7_reads 64 67 78 (.ifCond .eq) := ⟨14, by decide +kernel, rfl, by decide⟩
theorem d_X7_reads_67 : Dc cX7_reads 67 1 68 (.iload_n 1) := ⟨by decide +kernel, rfl⟩
theorem d_X7_reads_68 : Dj cX7_reads 68 71 78 (.ifCond .eq) := ⟨10, by decide +kernel, rfl, by decide⟩
theorem d_X7_reads_71 : Dc cX7_reads 71 1 72 (.aload_n 0) := ⟨by decide +kernel, rfl⟩
theorem d_X7_reads_72 : Dc cX7_reads 72 3 75 (.invokevirtual 199) := ⟨by decide +kernel, rfl⟩
theorem d_X7_reads_75 : Dj cX7_reads 75 78 79 .goto := ⟨4, by decide +kernel, rfl, by decide⟩
theorem d_X7_reads_78 : Dc cX7_reads 78 1 79 (.iconst 0) := ⟨by decide +kernel, rfl⟩
theorem d_X7_reads_79 : Dc cX7_reads 79 2 81 (.istore 4) := ⟨by decide +kernel, rfl⟩
theorem d_X7_reads_81 : Dc cX7_reads 81 1 82 (.iload_n 2) := ⟨by decide +kernel, rfl⟩
theorem d_X7_reads_82 : Dc cX7_reads 82 1 83 (.iload_n 3) := ⟨by decide +kernel, rfl⟩
theorem d_X7_reads_83 : Dj cX7_reads 83 86 90 (.ifCond .eq) := ⟨7, by decide +kernel, rfl, by decide⟩
theorem d_X7_reads_86 : Dc cX7_reads 86 1 87 (.iconst 1) := ⟨by decide +kernel, rfl⟩
theorem d_X7_reads_87 : Dj cX7_reads 87 90 91 .goto := ⟨4, by decide +kernel, rfl, by decide⟩
theorem d_X7_reads_90 : Dc cX7_reads 90 1 91 (.iconst 0) := ⟨by decide +kernel, rfl⟩
theorem d_X7_reads_91 : Dc cX7_reads 91 1 92 .iadd := ⟨by decide +kernel, rfl⟩
theorem d_X7_reads_92 : Dc cX7_reads 92 1 93 (.istore_n 2) := ⟨by decide +kernel, rfl⟩
theorem d_X7_reads_93 : Dc cX7_reads 93 1 94 (.iload_n 3) := ⟨by decide +kernel, rfl⟩
theorem d_X7_reads_94 : Dj cX7_reads 94 97 112 (.ifCond .eq) := ⟨18, by decide +kernel, rfl, by decide⟩
theorem d_X7_reads_97 : Dc cX7_reads 97 1 98 (.aload_n 0) := ⟨by decide +kernel, rfl⟩
theorem d_X7_reads_98 : Dc cX7_reads 98 3 101 (.getfield 154) := ⟨by decide +kernel, rfl⟩
theorem d_X7_reads_101 : Dc cX7_reads 101 1 102 (.aload_n 0) := ⟨by decide +kernel, rfl⟩
theorem d_X7_reads_102 : Dc cX7_reads 102 3 105 (.getfield 147) := ⟨by decide +kernel, rfl⟩
theorem d_X7_reads_105 : Dj cX7_reads 105 108 112 (.if_icmp .ge) := ⟨7, by decide +kernel, rfl, by decide⟩
theorem d_X7_reads_108 : Dc cX7_reads 108 1 109 (.iconst 1) := ⟨by decide +kernel, rfl⟩
theorem d_X7_reads_109 : Dj cX7_reads 109 112 113 .goto := ⟨4, by decide +kernel, rfl, by decide⟩
theorem d_X7_reads_112 : Dc cX7_reads 112 1 113 (.iconst 0) := ⟨by decide +kernel, rfl⟩
theorem d_X7_reads_113 : Dc cX7_reads 113 1 114 (.istore_n 3) := ⟨by decide +kernel, rfl⟩
theorem d_X7_reads_114 : Dc cX7_reads 114 1 115 (.iload_n 3) := ⟨by decide +kernel, rfl⟩
theorem d_X7_reads_115 : Dj cX7_reads 115 118 141 (.ifCond .eq) := ⟨26, by decide +kernel, rfl, by decide⟩
theorem d_X7_reads_118 : Dc cX7_reads 118 1 119 (.aload_n 0) := ⟨by decide +kernel, rfl⟩
theorem d_X7_reads_119 : Dc cX7_reads 119 2 121 (.bipush 59) := ⟨by decide +kernel, rfl⟩
theorem d_X7_reads_121 : Dc cX7_reads 121 2 123 (.bipush 59) := ⟨by decide +kernel, rfl⟩
theorem d_X7_reads_123 : Dc cX7_reads 123 3 126 (.invokevirtual 160) := ⟨by decide +kernel, rfl⟩
theorem d_X7_reads_126 : Dc cX7_reads 126 2 128 (.istore 5) := ⟨by decide +kernel, rfl⟩
theorem d_X7_reads_128 : Dc cX7_reads 128 1 129 (.aload_n 0) := ⟨by decide +kernel, rfl⟩
theorem d_X7_reads_129 : Dc cX7_reads 129 3 132 (.getfield 150) := ⟨by decide +kernel, rfl⟩
theorem d_X7_reads_132 : Dj cX7_reads 132 135 139 (.ifCond .ne) := ⟨7, by decide +kernel, rfl, by decide⟩
theorem d_X7_reads_135 : Dc cX7_reads 135 1 136 (.iconst 1) := ⟨by decide +kernel, rfl⟩
theorem d_X7_reads_136 : Dj cX7_reads 136 139 140 .goto := ⟨4, by decide +kernel, rfl, by decide⟩
theorem d_X7_reads_139 : Dc cX7_reads 139 1 140 (.iconst 0) := ⟨by decide +kernel, rfl⟩
theorem d_X7_reads_140 : Dc cX7_reads 140 1 141 (.istore_n 3) := ⟨by decide +kernel, rfl⟩
theorem d_X7_reads_141 : Dj cX7_reads 141 144 19 .goto := ⟨(-122), by decide +kernel, rfl, by decide⟩
theorem d_X7_reads_144 : Dc cX7_reads 144 1 145 (.iload_n 2) := ⟨by decide +kernel, rfl⟩
theorem d_X7_reads_145 : decode cX7_reads 145 = .ok (.ireturn, 1) := by decide +kernel
set_option maxHeartbeats 4000000 in
set_option maxRecDepth 20000 in
theorem c_X7_reads0 {E : Ev} {n : Nat} {M : Mem} {m : Nat} {s a sn tx : Int → Int} {H : Int → Int → Int} {kn kp ln st se sp wr le f1 f2 f3 f4 f5 sb : Int} (ht : txB tx ln) : MT E yX7_reads cX7_reads 6 (some .int) 12 0 0 [.ref m, .int (iI 0)] n (md E M m s a (hOf H) sn tx kn kp ln st se sp wr le f1 f2 f3 f4 f5 sb) ((fun v n' M' => v = some (.int (iI (RF tx ln 61 0 0).1)) ∧ n' = n ∧ ∃ le f1 f2 f3 f4 f5 : Int, M' = md E M m s a (hOf H) sn tx kn kp ln st se ((RF tx ln 61 0 0).2.1) ((RF tx ln 61 0 0).2.2) le f1 f2 f3 f4 f5 0)) := by
  refine MT.of (by decide) rfl (Nat.le_of_ble_eq_true rfl) ?_
  intro X g
  have g0 := g.1
  show V E X 0 0 n (md E M m s a (hOf H) sn tx kn kp ln st se sp wr le f1 f2 f3 f4 f5 sb) 0 [some (.ref m), some (.int (iI 0)), none, none, none, none] []
  refine V.al0 g0 d_X7_reads_0 ?_
  refine V.iconst g0 d_X7_reads_1 ?_
  refine V.putf g0 d_X7_reads_2 fp_X7_154 (by first | exact md_0 | exact md_1 | exact md_2 | exact md_3 | exact md_4 | exact md_5) (Nat.le_of_ble_eq_true rfl) rfl rfl ?_
  first | refine V.eqM md_u1 ?_ | refine V.eqM md_u2 ?_ | refine V.eqM md_u3 ?_ | refine V.eqM md_u4 ?_ | refine V.eqM md_u5 ?_ | refine V.eqM md_u0 ?_
  refine V.al0 g0 d_X7_reads_5 ?_
  refine V.iconst g0 d_X7_reads_6 ?_
  refine V.putf g0 d_X7_reads_7 fp_X7_150 (by first | exact md_0 | exact md_1 | exact md_2 | exact md_3 | exact md_4 | exact md_5) (Nat.le_of_ble_eq_true rfl) rfl rfl ?_
  first | refine V.eqM md_u1 ?_ | refine V.eqM md_u2 ?_ | refine V.eqM md_u3 ?_ | refine V.eqM md_u4 ?_ | refine V.eqM md_u5 ?_ | refine V.eqM md_u0 ?_
  refine V.al0 g0 d_X7_reads_10 ?_
  refine V.iconst g0 d_X7_reads_11 ?_
  refine V.putf g0 d_X7_reads_12 fp_X7_190 (by first | exact md_0 | exact md_1 | exact md_2 | exact md_3 | exact md_4 | exact md_5) (Nat.le_of_ble_eq_true rfl) rfl rfl ?_
  first | refine V.eqM md_u1 ?_ | refine V.eqM md_u2 ?_ | refine V.eqM md_u3 ?_ | refine V.eqM md_u4 ?_ | refine V.eqM md_u5 ?_ | refine V.eqM md_u0 ?_
  refine V.iconst g0 d_X7_reads_15 ?_
  refine V.is2 g0 d_X7_reads_16 ?_
  refine V.iconst g0 d_X7_reads_17 ?_
  refine V.is3 g0 d_X7_reads_18 ?_
  refine V.il3 g0 d_X7_reads_19 ?_
  refine V.ifeq g0 d_X7_reads_20 (by omega) (fun c_20 => ?_) (fun c_20 => ?_)
  · skip
    exfalso; omega
  · skip
    have LP : ∀ (f : Nat) (s1 w1 k le g1 g2 g3 g4 g5 : Int), ln - s1 < f → 0 ≤ s1 ∧ s1 ≤ ln → w1 = 0 → RF tx ln 61 0 0 = RF tx ln f s1 k → V E X 0 0 n (md E M m s a (hOf H) sn tx kn kp ln st se s1 w1 le g1 g2 g3 g4 g5 0) 23 [some (.ref m), some (.int (iI 0)), some (.int (iI k)), some (.int (iI 1)), none, none] [] := by
      intro f
      induction f using Nat.strongRecOn with
      | _ f ih =>
      intro s1 w1 k le g1 g2 g3 g4 g5 hf hs1 hw1 hR
      have hl := ht.1
      have rb := rd1_b (f1 := g1) (f2 := g2) (f3 := g3) (f4 := g4) (f5 := g5) ht hs1
      have r0 := rd1_0 tx ln s1 g1 g2 g3 g4 g5
      have tb := tk_all (tx := tx) (ln := ln) (sp := (rd1 tx ln s1 g1 g2 g3 g4 g5).1) (wr := 0) (lo := 59) (hi := 59) rb.1 (by omega)
      refine V.al0 g0 d_X7_reads_23 ?_
      refine V.callVf g0 (c_X7_readOne ht hs1 hw1) ky_X7_readOne ki_X7_readOne ks2_X7_readOne lk_X7_193 (by first | exact md_0 | exact md_1 | exact md_2 | exact md_3 | exact md_4 | exact md_5) rfl rfl (Nat.le_of_ble_eq_true rfl) ⟨Nat.zero_le _, Nat.zero_le _⟩ rfl rfl (Nat.le_of_ble_eq_true rfl) d_X7_reads_24 ?_
      refine V.al0 g0 d_X7_reads_27 ?_
      refine V.il1 g0 d_X7_reads_28 ?_
      refine V.ifeq g0 d_X7_reads_29 (by omega) (fun c_29 => ?_) (fun c_29 => ?_)
      · skip
        refine V.iconst g0 d_X7_reads_39 ?_
        refine V.putf g0 d_X7_reads_40 fp_X7_190 (by first | exact md_0 | exact md_1 | exact md_2 | exact md_3 | exact md_4 | exact md_5) (Nat.le_of_ble_eq_true rfl) rfl rfl ?_
        first | refine V.eqM md_u1 ?_ | refine V.eqM md_u2 ?_ | refine V.eqM md_u3 ?_ | refine V.eqM md_u4 ?_ | refine V.eqM md_u5 ?_ | refine V.eqM md_u0 ?_
        refine V.al0 g0 d_X7_reads_43 ?_
        refine V.getf g0 d_X7_reads_44 fl_X7_150 (by first | exact md_0 | exact md_1 | exact md_2 | exact md_3 | exact md_4 | exact md_5) (by rfl) ?_
        refine V.ifne g0 d_X7_reads_47 (by omega) (fun c_47 => ?_) (fun c_47 => ?_)
        · skip
          refine V.iconst g0 d_X7_reads_61 ?_
          refine V.is3 g0 d_X7_reads_62 ?_
          refine V.il3 g0 d_X7_reads_63 ?_
          refine V.ifeq g0 d_X7_reads_64 (by omega) (fun c_64 => ?_) (fun c_64 => ?_)
          · skip
            refine V.iconst g0 d_X7_reads_78 ?_
            refine V.is4 g0 d_X7_reads_79 ?_
            refine V.il2 g0 d_X7_reads_81 ?_
            refine V.il3 g0 d_X7_reads_82 ?_
            refine V.ifeq g0 d_X7_reads_83 (by omega) (fun c_83 => ?_) (fun c_83 => ?_)
            · skip
              refine V.iconst g0 d_X7_reads_90 ?_
              refine V.iadd g0 d_X7_reads_91 ?_
              refine V.is2 g0 d_X7_reads_92 ?_
              refine V.il3 g0 d_X7_reads_93 ?_
              refine V.ifeq g0 d_X7_reads_94 (by omega) (fun c_94 => ?_) (fun c_94 => ?_)
              · skip
                refine V.iconst g0 d_X7_reads_112 ?_
                refine V.is3 g0 d_X7_reads_113 ?_
                refine V.il3 g0 d_X7_reads_114 ?_
                refine V.ifeq g0 d_X7_reads_115 (by omega) (fun c_115 => ?_) (fun c_115 => ?_)
                · skip
                  refine V.goto g0 d_X7_reads_141 ?_
                  refine V.il3 g0 d_X7_reads_19 ?_
                  refine V.ifeq g0 d_X7_reads_20 (by omega) (fun c_20 => ?_) (fun c_20 => ?_)
                  · skip
                    refine V.il2 g0 d_X7_reads_144 ?_
                    refine V.iret g d_X7_reads_145 (Nat.zero_le _) (Nat.zero_le _) ?_
                    have e : (RF tx ln 61 0 0) = (k + 0, (rd1 tx ln s1 g1 g2 g3 g4 g5).1, (rd1 tx ln s1 g1 g2 g3 g4 g5).2.1) := by rw [hR, RF_end (by omega) (by omega), r0.1, show (rd1 tx ln s1 g1 g2 g3 g4 g5).2.1 = 1 by omega, Int.add_zero k]
                    rw [e]
                    exact ⟨rfl, rfl, _, _, _, _, _, _, rfl⟩
                  · skip
                    exfalso; omega
                · skip
                  exfalso; omega
              · skip
                exfalso; omega
            · skip
              exfalso; omega
          · skip
            exfalso; omega
        · skip
          refine V.al0 g0 d_X7_reads_50 ?_
          refine V.getf g0 d_X7_reads_51 fl_X7_190 (by first | exact md_0 | exact md_1 | exact md_2 | exact md_3 | exact md_4 | exact md_5) (by rfl) ?_
          refine V.ifne g0 d_X7_reads_54 (by omega) (fun c_54 => ?_) (fun c_54 => ?_)
          · skip
            exfalso; omega
          · skip
            refine V.iconst g0 d_X7_reads_57 ?_
            refine V.goto g0 d_X7_reads_58 ?_
            refine V.is3 g0 d_X7_reads_62 ?_
            refine V.il3 g0 d_X7_reads_63 ?_
            refine V.ifeq g0 d_X7_reads_64 (by omega) (fun c_64 => ?_) (fun c_64 => ?_)
            · skip
              exfalso; omega
            · skip
              refine V.il1 g0 d_X7_reads_67 ?_
              refine V.ifeq g0 d_X7_reads_68 (by omega) (fun c_68 => ?_) (fun c_68 => ?_)
              · skip
                refine V.iconst g0 d_X7_reads_78 ?_
                refine V.is4 g0 d_X7_reads_79 ?_
                refine V.il2 g0 d_X7_reads_81 ?_
                refine V.il3 g0 d_X7_reads_82 ?_
                refine V.ifeq g0 d_X7_reads_83 (by omega) (fun c_83 => ?_) (fun c_83 => ?_)
                · skip
                  exfalso; omega
                · skip
                  refine V.iconst g0 d_X7_reads_86 ?_
                  refine V.goto g0 d_X7_reads_87 ?_
                  refine V.iadd g0 d_X7_reads_91 ?_
                  refine V.is2 g0 d_X7_reads_92 ?_
                  refine V.il3 g0 d_X7_reads_93 ?_
                  refine V.ifeq g0 d_X7_reads_94 (by omega) (fun c_94 => ?_) (fun c_94 => ?_)
                  · skip
                    exfalso; omega
                  · skip
                    refine V.al0 g0 d_X7_reads_97 ?_
                    refine V.getf g0 d_X7_reads_98 fl_X7_154 (by first | exact md_0 | exact md_1 | exact md_2 | exact md_3 | exact md_4 | exact md_5) (by rfl) ?_
                    refine V.al0 g0 d_X7_reads_101 ?_
                    refine V.getf g0 d_X7_reads_102 fl_X7_147 (by first | exact md_0 | exact md_1 | exact md_2 | exact md_3 | exact md_4 | exact md_5) (by rfl) ?_
                    refine V.icmpge g0 d_X7_reads_105 (by omega) (fun c_105 => ?_) (fun c_105 => ?_)
                    · skip
                      refine V.iconst g0 d_X7_reads_112 ?_
                      refine V.is3 g0 d_X7_reads_113 ?_
                      refine V.il3 g0 d_X7_reads_114 ?_
                      refine V.ifeq g0 d_X7_reads_115 (by omega) (fun c_115 => ?_) (fun c_115 => ?_)
                      · skip
                        refine V.goto g0 d_X7_reads_141 ?_
                        refine V.il3 g0 d_X7_reads_19 ?_
                        refine V.ifeq g0 d_X7_reads_20 (by omega) (fun c_20 => ?_) (fun c_20 => ?_)
                        · skip
                          refine V.il2 g0 d_X7_reads_144 ?_
                          refine V.iret g d_X7_reads_145 (Nat.zero_le _) (Nat.zero_le _) ?_
                          have e : (RF tx ln 61 0 0) = (k + 1, (rd1 tx ln s1 g1 g2 g3 g4 g5).1, (rd1 tx ln s1 g1 g2 g3 g4 g5).2.1) := by rw [hR, RF_done (by omega) (by omega) (by omega), r0.1, c_47]
                          rw [e]
                          exact ⟨rfl, rfl, _, _, _, _, _, _, rfl⟩
                        · skip
                          exfalso; omega
                      · skip
                        exfalso; omega
                    · skip
                      refine V.iconst g0 d_X7_reads_108 ?_
                      refine V.goto g0 d_X7_reads_109 ?_
                      refine V.is3 g0 d_X7_reads_113 ?_
                      refine V.il3 g0 d_X7_reads_114 ?_
                      refine V.ifeq g0 d_X7_reads_115 (by omega) (fun c_115 => ?_) (fun c_115 => ?_)
                      · skip
                        exfalso; omega
                      · skip
                        refine V.al0 g0 d_X7_reads_118 ?_
                        refine V.bipush g0 d_X7_reads_119 (by decide) ?_
                        refine V.bipush g0 d_X7_reads_121 (by decide) ?_
                        refine V.callVf g0 (c_X7_takes ht rb.1 rb.2.1 (by decide) (by decide)) ky_X7_takes ki_X7_takes ks2_X7_takes lk_X7_160 (by first | exact md_0 | exact md_1 | exact md_2 | exact md_3 | exact md_4 | exact md_5) rfl rfl (Nat.le_of_ble_eq_true rfl) ⟨Nat.zero_le _, Nat.zero_le _⟩ rfl rfl (Nat.le_of_ble_eq_true rfl) d_X7_reads_123 ?_
                        rw [c_47]
                        refine V.is5 g0 d_X7_reads_126 ?_
                        refine V.al0 g0 d_X7_reads_128 ?_
                        refine V.getf g0 d_X7_reads_129 fl_X7_150 (by first | exact md_0 | exact md_1 | exact md_2 | exact md_3 | exact md_4 | exact md_5) (by rfl) ?_
                        refine V.ifne g0 d_X7_reads_132 (by omega) (fun c_132 => ?_) (fun c_132 => ?_)
                        · skip
                          refine V.iconst g0 d_X7_reads_139 ?_
                          refine V.is3 g0 d_X7_reads_140 ?_
                          refine V.goto g0 d_X7_reads_141 ?_
                          refine V.il3 g0 d_X7_reads_19 ?_
                          refine V.ifeq g0 d_X7_reads_20 (by omega) (fun c_20 => ?_) (fun c_20 => ?_)
                          · skip
                            refine V.il2 g0 d_X7_reads_144 ?_
                            refine V.iret g d_X7_reads_145 (Nat.zero_le _) (Nat.zero_le _) ?_
                            have e : (RF tx ln 61 0 0) = (k + 1, tkS tx ln (rd1 tx ln s1 g1 g2 g3 g4 g5).1 0 59 59, tkW tx ln (rd1 tx ln s1 g1 g2 g3 g4 g5).1 0 59 59) := by rw [hR, RF_sep (by omega) (by omega) (by omega) (by rw [← r0.1]; exact c_132), ← r0.1, show tkW tx ln (rd1 tx ln s1 g1 g2 g3 g4 g5).1 0 59 59 = 1 by omega]
                            rw [e]
                            exact ⟨rfl, rfl, _, _, _, _, _, _, rfl⟩
                          · skip
                            exfalso; omega
                        · skip
                          refine V.iconst g0 d_X7_reads_135 ?_
                          refine V.goto g0 d_X7_reads_136 ?_
                          refine V.is3 g0 d_X7_reads_140 ?_
                          refine V.goto g0 d_X7_reads_141 ?_
                          refine V.il3 g0 d_X7_reads_19 ?_
                          refine V.ifeq g0 d_X7_reads_20 (by omega) (fun c_20 => ?_) (fun c_20 => ?_)
                          · skip
                            exfalso; omega
                          · skip
                            exact V.weak2 (ih (f - 1) (by omega) _ _ (k + 1) _ _ _ _ _ _ (by omega) (by omega) c_132 (by rw [hR, RF_step (by omega) (by omega) (by omega) (by rw [← r0.1]; exact c_132), r0.1])) (lcLe_s (lcLe_s (lcLe_s (lcLe_s (lcLe_f (lcLe_f lcLe_n))))))
              · skip
                exfalso; omega
      · skip
        exfalso; omega
    exact LP 61 0 0 0 le f1 f2 f3 f4 f5 (by have := ht.1; omega) (by have := ht.1; omega) rfl rfl

set_option maxHeartbeats 4000000 in
set_option maxRecDepth 20000 in
theorem c_X7_reads1 {E : Ev} {n : Nat} {M : Mem} {m : Nat} {s a sn tx : Int → Int} {H : Int → Int → Int} {kn kp ln st se sp wr le f1 f2 f3 f4 f5 sb : Int} (ht : txB tx ln) (hO : Ok s) (hF0 : (RF tx ln 61 0 0).2.2 = 0) : MT E yX7_reads cX7_reads 6 (some .int) 12 0 0 [.ref m, .int (iI 1)] n (md E M m s a (hOf H) sn tx kn kp ln st se sp wr le f1 f2 f3 f4 f5 sb) ((fun v n' M' => v = some (.int (iI (RT tx ln 61 0 0 s).1)) ∧ n' = n ∧ ∃ sp wr le f1 f2 f3 f4 f5 : Int, M' = md E M m ((RT tx ln 61 0 0 s).2.2) a (hOf H) sn tx kn kp ln st se sp wr le f1 f2 f3 f4 f5 ((RT tx ln 61 0 0 s).2.1))) := by
  refine MT.of (by decide) rfl (Nat.le_of_ble_eq_true rfl) ?_
  intro X g
  have g0 := g.1
  show V E X 0 0 n (md E M m s a (hOf H) sn tx kn kp ln st se sp wr le f1 f2 f3 f4 f5 sb) 0 [some (.ref m), some (.int (iI 1)), none, none, none, none] []
  refine V.al0 g0 d_X7_reads_0 ?_
  refine V.iconst g0 d_X7_reads_1 ?_
  refine V.putf g0 d_X7_reads_2 fp_X7_154 (by first | exact md_0 | exact md_1 | exact md_2 | exact md_3 | exact md_4 | exact md_5) (Nat.le_of_ble_eq_true rfl) rfl rfl ?_
  first | refine V.eqM md_u1 ?_ | refine V.eqM md_u2 ?_ | refine V.eqM md_u3 ?_ | refine V.eqM md_u4 ?_ | refine V.eqM md_u5 ?_ | refine V.eqM md_u0 ?_
  refine V.al0 g0 d_X7_reads_5 ?_
  refine V.iconst g0 d_X7_reads_6 ?_
  refine V.putf g0 d_X7_reads_7 fp_X7_150 (by first | exact md_0 | exact md_1 | exact md_2 | exact md_3 | exact md_4 | exact md_5) (Nat.le_of_ble_eq_true rfl) rfl rfl ?_
  first | refine V.eqM md_u1 ?_ | refine V.eqM md_u2 ?_ | refine V.eqM md_u3 ?_ | refine V.eqM md_u4 ?_ | refine V.eqM md_u5 ?_ | refine V.eqM md_u0 ?_
  refine V.al0 g0 d_X7_reads_10 ?_
  refine V.iconst g0 d_X7_reads_11 ?_
  refine V.putf g0 d_X7_reads_12 fp_X7_190 (by first | exact md_0 | exact md_1 | exact md_2 | exact md_3 | exact md_4 | exact md_5) (Nat.le_of_ble_eq_true rfl) rfl rfl ?_
  first | refine V.eqM md_u1 ?_ | refine V.eqM md_u2 ?_ | refine V.eqM md_u3 ?_ | refine V.eqM md_u4 ?_ | refine V.eqM md_u5 ?_ | refine V.eqM md_u0 ?_
  refine V.iconst g0 d_X7_reads_15 ?_
  refine V.is2 g0 d_X7_reads_16 ?_
  refine V.iconst g0 d_X7_reads_17 ?_
  refine V.is3 g0 d_X7_reads_18 ?_
  refine V.il3 g0 d_X7_reads_19 ?_
  refine V.ifeq g0 d_X7_reads_20 (by omega) (fun c_20 => ?_) (fun c_20 => ?_)
  · skip
    exfalso; omega
  · skip
    have LP : ∀ (f : Nat) (s1 w1 k le g1 g2 g3 g4 g5 : Int) (t : Int → Int) (b1 : Int), ln - s1 < f → 0 ≤ s1 ∧ s1 ≤ ln → w1 = 0 → Ok t → RT tx ln 61 0 0 s = RT tx ln f s1 k t → (RF tx ln f s1 k).2.2 = 0 → V E X 0 0 n (md E M m t a (hOf H) sn tx kn kp ln st se s1 w1 le g1 g2 g3 g4 g5 b1) 23 [some (.ref m), some (.int (iI 1)), some (.int (iI k)), some (.int (iI 1)), none, none] [] := by
      intro f
      induction f using Nat.strongRecOn with
      | _ f ih =>
      intro s1 w1 k le g1 g2 g3 g4 g5 t b1 hf hs1 hw1 hO1 hR hF
      have hl := ht.1
      have rb := rd1_b (f1 := g1) (f2 := g2) (f3 := g3) (f4 := g4) (f5 := g5) ht hs1
      have r0 := rd1_0 tx ln s1 g1 g2 g3 g4 g5
      have tb := tk_all (tx := tx) (ln := ln) (sp := (rd1 tx ln s1 g1 g2 g3 g4 g5).1) (wr := 0) (lo := 59) (hi := 59) rb.1 (by omega)
      have hw0 : (rd1 tx ln s1 g1 g2 g3 g4 g5).2.1 = 0 := by rw [r0.2]; exact (RF_free (by omega) hF).1
      have re := rd1_e ht hs1 hw0 t
      have eb := errOne_b t (rd1 tx ln s1 g1 g2 g3 g4 g5).2.2.1 (rd1 tx ln s1 g1 g2 g3 g4 g5).2.2.2.1 (rd1 tx ln s1 g1 g2 g3 g4 g5).2.2.2.2.1 (rd1 tx ln s1 g1 g2 g3 g4 g5).2.2.2.2.2.1 (rd1 tx ln s1 g1 g2 g3 g4 g5).2.2.2.2.2.2.1 (rd1 tx ln s1 g1 g2 g3 g4 g5).2.2.2.2.2.2.2
      refine V.al0 g0 d_X7_reads_23 ?_
      refine V.callVf g0 (c_X7_readOne ht hs1 hw1) ky_X7_readOne ki_X7_readOne ks2_X7_readOne lk_X7_193 (by first | exact md_0 | exact md_1 | exact md_2 | exact md_3 | exact md_4 | exact md_5) rfl rfl (Nat.le_of_ble_eq_true rfl) ⟨Nat.zero_le _, Nat.zero_le _⟩ rfl rfl (Nat.le_of_ble_eq_true rfl) d_X7_reads_24 ?_
      refine V.al0 g0 d_X7_reads_27 ?_
      refine V.il1 g0 d_X7_reads_28 ?_
      refine V.ifeq g0 d_X7_reads_29 (by omega) (fun c_29 => ?_) (fun c_29 => ?_)
      · skip
        exfalso; omega
      · skip
        refine V.al0 g0 d_X7_reads_32 ?_
        refine V.callVp g0 (c_X7_errorOfOne hO1 rb.2.2.2.2.1 rb.2.2.2.2.2.1 (fun a b => rb.2.2.2.2.2.2 a b hw0) rb.2.2.2.1) ky_X7_errorOfOne ki_X7_errorOfOne ks2_X7_errorOfOne lk_X7_196 (by first | exact md_0 | exact md_1 | exact md_2 | exact md_3 | exact md_4 | exact md_5) rfl rfl (Nat.le_of_ble_eq_true rfl) ⟨Nat.zero_le _, Nat.zero_le _⟩ rfl rfl (Nat.le_of_ble_eq_true rfl) d_X7_reads_33 ?_
        refine V.goto g0 d_X7_reads_36 ?_
        refine V.putf g0 d_X7_reads_40 fp_X7_190 (by first | exact md_0 | exact md_1 | exact md_2 | exact md_3 | exact md_4 | exact md_5) (Nat.le_of_ble_eq_true rfl) rfl rfl ?_
        first | refine V.eqM md_u1 ?_ | refine V.eqM md_u2 ?_ | refine V.eqM md_u3 ?_ | refine V.eqM md_u4 ?_ | refine V.eqM md_u5 ?_ | refine V.eqM md_u0 ?_
        refine V.al0 g0 d_X7_reads_43 ?_
        refine V.getf g0 d_X7_reads_44 fl_X7_150 (by first | exact md_0 | exact md_1 | exact md_2 | exact md_3 | exact md_4 | exact md_5) (by rfl) ?_
        refine V.ifne g0 d_X7_reads_47 (by omega) (fun c_47 => ?_) (fun c_47 => ?_)
        · skip
          exfalso; omega
        · skip
          refine V.al0 g0 d_X7_reads_50 ?_
          refine V.getf g0 d_X7_reads_51 fl_X7_190 (by first | exact md_0 | exact md_1 | exact md_2 | exact md_3 | exact md_4 | exact md_5) (by rfl) ?_
          refine V.ifne g0 d_X7_reads_54 (by omega) (fun c_54 => ?_) (fun c_54 => ?_)
          · skip
            refine V.iconst g0 d_X7_reads_61 ?_
            refine V.is3 g0 d_X7_reads_62 ?_
            refine V.il3 g0 d_X7_reads_63 ?_
            refine V.ifeq g0 d_X7_reads_64 (by omega) (fun c_64 => ?_) (fun c_64 => ?_)
            · skip
              refine V.iconst g0 d_X7_reads_78 ?_
              refine V.is4 g0 d_X7_reads_79 ?_
              refine V.il2 g0 d_X7_reads_81 ?_
              refine V.il3 g0 d_X7_reads_82 ?_
              refine V.ifeq g0 d_X7_reads_83 (by omega) (fun c_83 => ?_) (fun c_83 => ?_)
              · skip
                refine V.iconst g0 d_X7_reads_90 ?_
                refine V.iadd g0 d_X7_reads_91 ?_
                refine V.is2 g0 d_X7_reads_92 ?_
                refine V.il3 g0 d_X7_reads_93 ?_
                refine V.ifeq g0 d_X7_reads_94 (by omega) (fun c_94 => ?_) (fun c_94 => ?_)
                · skip
                  refine V.iconst g0 d_X7_reads_112 ?_
                  refine V.is3 g0 d_X7_reads_113 ?_
                  refine V.il3 g0 d_X7_reads_114 ?_
                  refine V.ifeq g0 d_X7_reads_115 (by omega) (fun c_115 => ?_) (fun c_115 => ?_)
                  · skip
                    refine V.goto g0 d_X7_reads_141 ?_
                    refine V.il3 g0 d_X7_reads_19 ?_
                    refine V.ifeq g0 d_X7_reads_20 (by omega) (fun c_20 => ?_) (fun c_20 => ?_)
                    · skip
                      refine V.il2 g0 d_X7_reads_144 ?_
                      refine V.iret g d_X7_reads_145 (Nat.zero_le _) (Nat.zero_le _) ?_
                      have e : (RT tx ln 61 0 0 s) = (k + 0, err1 t (rd1 tx ln s1 g1 g2 g3 g4 g5), t) := by rw [hR, RT_stop (by omega) (re.1 ▸ c_54), re.1, Int.add_zero k]
                      rw [e]
                      exact ⟨rfl, rfl, _, _, _, _, _, _, _, _, rfl⟩
                    · skip
                      exfalso; omega
                  · skip
                    exfalso; omega
                · skip
                  exfalso; omega
              · skip
                exfalso; omega
            · skip
              exfalso; omega
          · skip
            refine V.iconst g0 d_X7_reads_57 ?_
            refine V.goto g0 d_X7_reads_58 ?_
            refine V.is3 g0 d_X7_reads_62 ?_
            refine V.il3 g0 d_X7_reads_63 ?_
            refine V.ifeq g0 d_X7_reads_64 (by omega) (fun c_64 => ?_) (fun c_64 => ?_)
            · skip
              exfalso; omega
            · skip
              refine V.il1 g0 d_X7_reads_67 ?_
              refine V.ifeq g0 d_X7_reads_68 (by omega) (fun c_68 => ?_) (fun c_68 => ?_)
              · skip
                exfalso; omega
              · skip
                refine V.al0 g0 d_X7_reads_71 ?_
                refine V.callVf g0 (c_X7_doesOne hO1 rb.2.2.2.1 c_54) ky_X7_doesOne ki_X7_doesOne ks2_X7_doesOne lk_X7_199 (by first | exact md_0 | exact md_1 | exact md_2 | exact md_3 | exact md_4 | exact md_5) rfl rfl (Nat.le_of_ble_eq_true rfl) ⟨Nat.zero_le _, Nat.zero_le _⟩ rfl rfl (Nat.le_of_ble_eq_true rfl) d_X7_reads_72 ?_
                refine V.goto g0 d_X7_reads_75 ?_
                refine V.is4 g0 d_X7_reads_79 ?_
                refine V.il2 g0 d_X7_reads_81 ?_
                refine V.il3 g0 d_X7_reads_82 ?_
                refine V.ifeq g0 d_X7_reads_83 (by omega) (fun c_83 => ?_) (fun c_83 => ?_)
                · skip
                  exfalso; omega
                · skip
                  refine V.iconst g0 d_X7_reads_86 ?_
                  refine V.goto g0 d_X7_reads_87 ?_
                  refine V.iadd g0 d_X7_reads_91 ?_
                  refine V.is2 g0 d_X7_reads_92 ?_
                  refine V.il3 g0 d_X7_reads_93 ?_
                  refine V.ifeq g0 d_X7_reads_94 (by omega) (fun c_94 => ?_) (fun c_94 => ?_)
                  · skip
                    exfalso; omega
                  · skip
                    refine V.al0 g0 d_X7_reads_97 ?_
                    refine V.getf g0 d_X7_reads_98 fl_X7_154 (by first | exact md_0 | exact md_1 | exact md_2 | exact md_3 | exact md_4 | exact md_5) (by rfl) ?_
                    refine V.al0 g0 d_X7_reads_101 ?_
                    refine V.getf g0 d_X7_reads_102 fl_X7_147 (by first | exact md_0 | exact md_1 | exact md_2 | exact md_3 | exact md_4 | exact md_5) (by rfl) ?_
                    refine V.icmpge g0 d_X7_reads_105 (by omega) (fun c_105 => ?_) (fun c_105 => ?_)
                    · skip
                      refine V.iconst g0 d_X7_reads_112 ?_
                      refine V.is3 g0 d_X7_reads_113 ?_
                      refine V.il3 g0 d_X7_reads_114 ?_
                      refine V.ifeq g0 d_X7_reads_115 (by omega) (fun c_115 => ?_) (fun c_115 => ?_)
                      · skip
                        refine V.goto g0 d_X7_reads_141 ?_
                        refine V.il3 g0 d_X7_reads_19 ?_
                        refine V.ifeq g0 d_X7_reads_20 (by omega) (fun c_20 => ?_) (fun c_20 => ?_)
                        · skip
                          refine V.il2 g0 d_X7_reads_144 ?_
                          refine V.iret g d_X7_reads_145 (Nat.zero_le _) (Nat.zero_le _) ?_
                          have e : (RT tx ln 61 0 0 s) = (k + 1, err1 t (rd1 tx ln s1 g1 g2 g3 g4 g5), (do1 t (rd1 tx ln s1 g1 g2 g3 g4 g5)).2) := by rw [hR, RT_done (by omega) (re.1 ▸ c_54) (by omega), re.2, show err1 t (rd1 tx ln s1 g1 g2 g3 g4 g5) = 0 from c_54]
                          rw [e]
                          exact ⟨rfl, rfl, _, _, _, _, _, _, _, _, rfl⟩
                        · skip
                          exfalso; omega
                      · skip
                        exfalso; omega
                    · skip
                      refine V.iconst g0 d_X7_reads_108 ?_
                      refine V.goto g0 d_X7_reads_109 ?_
                      refine V.is3 g0 d_X7_reads_113 ?_
                      refine V.il3 g0 d_X7_reads_114 ?_
                      refine V.ifeq g0 d_X7_reads_115 (by omega) (fun c_115 => ?_) (fun c_115 => ?_)
                      · skip
                        exfalso; omega
                      · skip
                        refine V.al0 g0 d_X7_reads_118 ?_
                        refine V.bipush g0 d_X7_reads_119 (by decide) ?_
                        refine V.bipush g0 d_X7_reads_121 (by decide) ?_
                        refine V.callVf g0 (c_X7_takes ht rb.1 rb.2.1 (by decide) (by decide)) ky_X7_takes ki_X7_takes ks2_X7_takes lk_X7_160 (by first | exact md_0 | exact md_1 | exact md_2 | exact md_3 | exact md_4 | exact md_5) rfl rfl (Nat.le_of_ble_eq_true rfl) ⟨Nat.zero_le _, Nat.zero_le _⟩ rfl rfl (Nat.le_of_ble_eq_true rfl) d_X7_reads_123 ?_
                        rw [hw0]
                        have hF2 := (RF_free (by omega) hF).2 (by omega)
                        rw [← r0.1] at hF2
                        refine V.is5 g0 d_X7_reads_126 ?_
                        refine V.al0 g0 d_X7_reads_128 ?_
                        refine V.getf g0 d_X7_reads_129 fl_X7_150 (by first | exact md_0 | exact md_1 | exact md_2 | exact md_3 | exact md_4 | exact md_5) (by rfl) ?_
                        refine V.ifne g0 d_X7_reads_132 (by omega) (fun c_132 => ?_) (fun c_132 => ?_)
                        · skip
                          exact absurd hF2.1 c_132
                        · skip
                          refine V.iconst g0 d_X7_reads_135 ?_
                          refine V.goto g0 d_X7_reads_136 ?_
                          refine V.is3 g0 d_X7_reads_140 ?_
                          refine V.goto g0 d_X7_reads_141 ?_
                          refine V.il3 g0 d_X7_reads_19 ?_
                          refine V.ifeq g0 d_X7_reads_20 (by omega) (fun c_20 => ?_) (fun c_20 => ?_)
                          · skip
                            exfalso; omega
                          · skip
                            exact V.weak2 (ih (f - 1) (by omega) _ _ (k + 1) _ _ _ _ _ _ _ _ (by omega) (by omega) c_132 (doOne_ok hO1 c_54) (by rw [hR, RT_step (by omega) (re.1 ▸ c_54) (by omega), ← re.2, r0.1]; rfl) hF2.2) (lcLe_s (lcLe_s (lcLe_s (lcLe_s (lcLe_f (lcLe_f lcLe_n))))))
    exact LP 61 0 0 0 le f1 f2 f3 f4 f5 s 0 (by have := ht.1; omega) (by have := ht.1; omega) rfl hO rfl hF0

theorem d_X7_perform_0 : Dc cX7_perform 0 1 1 (.aload_n 0) := ⟨by decide +kernel, rfl⟩
theorem d_X7_perform_1 : Dc cX7_perform 1 1 2 (.iconst 0) := ⟨by decide +kernel, rfl⟩
theorem d_X7_perform_2 : Dc cX7_perform 2 3 5 (.invokevirtual 202) := ⟨by decide +kernel, rfl⟩
theorem d_X7_perform_5 : Dc cX7_perform 5 1 6 (.istore_n 1) := ⟨by decide +kernel, rfl⟩
theorem d_X7_perform_6 : Dc cX7_perform 6 1 7 (.aload_n 0) := ⟨by decide +kernel, rfl⟩
theorem d_X7_perform_7 : Dc cX7_perform 7 3 10 (.getfield 150) := ⟨by decide +kernel, rfl⟩
theorem d_X7_perform_10 : Dj cX7_perform 10 13 21 (.ifCond .eq) := ⟨11, by decide +kernel, rfl, by decide⟩
theorem d_X7_perform_13 : Dc cX7_perform 13 2 15 (.bipush (-100)) := ⟨by decide +kernel, rfl⟩
theorem d_X7_perform_15 : Dc cX7_perform 15 1 16 (.aload_n 0) := ⟨by decide +kernel, rfl⟩
theorem d_X7_perform_16 : Dc cX7_perform 16 3 19 (.getfield 154) := ⟨by decide +kernel, rfl⟩
theorem d_X7_perform_19 : Dc cX7_perform 19 1 20 .isub := ⟨by decide +kernel, rfl⟩
theorem d_X7_perform_20 : decode cX7_perform 20 = .ok (.ireturn, 1) := by decide +kernel
theorem d_X7_perform_21 : Dc cX7_perform 21 1 22 (.iconst 0) := ⟨by decide +kernel, rfl⟩
theorem d_X7_perform_22 : Dc cX7_perform 22 1 23 (.istore_n 2) := ⟨by decide +kernel, rfl⟩
theorem d_X7_perform_23 : Dc cX7_perform 23 1 24 (.iload_n 2) := ⟨by decide +kernel, rfl⟩
theorem d_X7_perform_24 : Dc cX7_perform 24 3 27 (.sipush 622) := ⟨by decide +kernel, rfl⟩
theorem d_X7_perform_27 : Dj cX7_perform 27 30 48 (.if_icmp .ge) := ⟨21, by decide +kernel, rfl, by decide⟩
theorem d_X7_perform_30 : Dc cX7_perform 30 1 31 (.aload_n 0) := ⟨by decide +kernel, rfl⟩
theorem d_X7_perform_31 : Dc cX7_perform 31 3 34 (.getfield 13) := ⟨by decide +kernel, rfl⟩
theorem d_X7_perform_34 : Dc cX7_perform 34 1 35 (.iload_n 2) := ⟨by decide +kernel, rfl⟩
theorem d_X7_perform_35 : Dc cX7_perform 35 1 36 (.aload_n 0) := ⟨by decide +kernel, rfl⟩
theorem d_X7_perform_36 : Dc cX7_perform 36 3 39 (.getfield 7) := ⟨by decide +kernel, rfl⟩
theorem d_X7_perform_39 : Dc cX7_perform 39 1 40 (.iload_n 2) := ⟨by decide +kernel, rfl⟩
theorem d_X7_perform_40 : Dc cX7_perform 40 1 41 .iaload := ⟨by decide +kernel, rfl⟩
theorem d_X7_perform_41 : Dc cX7_perform 41 1 42 .iastore := ⟨by decide +kernel, rfl⟩
theorem d_X7_perform_42 : Dc cX7_perform 42 3 45 (.iinc 2 1) := ⟨by decide +kernel, rfl⟩
theorem d_X7_perform_45 : Dj cX7_perform 45 48 23 .goto := ⟨(-22), by decide +kernel, rfl, by decide⟩
theorem d_X7_perform_48 : Dc cX7_perform 48 1 49 (.aload_n 0) := ⟨by decide +kernel, rfl⟩
theorem d_X7_perform_49 : Dc cX7_perform 49 1 50 (.iconst 1) := ⟨by decide +kernel, rfl⟩
theorem d_X7_perform_50 : Dc cX7_perform 50 3 53 (.invokevirtual 202) := ⟨by decide +kernel, rfl⟩
theorem d_X7_perform_53 : Dc cX7_perform 53 1 54 (.istore_n 1) := ⟨by decide +kernel, rfl⟩
theorem d_X7_perform_54 : Dc cX7_perform 54 1 55 (.aload_n 0) := ⟨by decide +kernel, rfl⟩
theorem d_X7_perform_55 : Dc cX7_perform 55 3 58 (.invokevirtual 206) := ⟨by decide +kernel, rfl⟩
theorem d_X7_perform_58 : Dc cX7_perform 58 1 59 (.aload_n 0) := ⟨by decide +kernel, rfl⟩
theorem d_X7_perform_59 : Dc cX7_perform 59 3 62 (.getfield 190) := ⟨by decide +kernel, rfl⟩
theorem d_X7_perform_62 : Dj cX7_perform 62 65 81 (.ifCond .eq) := ⟨19, by decide +kernel, rfl, by decide⟩
theorem d_X7_perform_65 : Dc cX7_perform 65 1 66 (.aload_n 0) := ⟨by decide +kernel, rfl⟩
theorem d_X7_perform_66 : Dc cX7_perform 66 1 67 (.iload_n 1) := ⟨by decide +kernel, rfl⟩
theorem d_X7_perform_67 : Dc cX7_perform 67 3 70 (.putfield 25) := ⟨by decide +kernel, rfl⟩
theorem d_X7_perform_70 : Dc cX7_perform 70 1 71 (.aload_n 0) := ⟨by decide +kernel, rfl⟩
theorem d_X7_perform_71 : Dc cX7_perform 71 1 72 (.aload_n 0) := ⟨by decide +kernel, rfl⟩
theorem d_X7_perform_72 : Dc cX7_perform 72 3 75 (.getfield 190) := ⟨by decide +kernel, rfl⟩
theorem d_X7_perform_75 : Dc cX7_perform 75 3 78 (.putfield 29) := ⟨by decide +kernel, rfl⟩
theorem d_X7_perform_78 : Dc cX7_perform 78 2 80 (.bipush (-4)) := ⟨by decide +kernel, rfl⟩
theorem d_X7_perform_80 : decode cX7_perform 80 = .ok (.ireturn, 1) := by decide +kernel
theorem d_X7_perform_81 : Dc cX7_perform 81 1 82 (.aload_n 0) := ⟨by decide +kernel, rfl⟩
theorem d_X7_perform_82 : Dc cX7_perform 82 3 85 (.invokevirtual 117) := ⟨by decide +kernel, rfl⟩
theorem d_X7_perform_85 : Dc cX7_perform 85 1 86 (.aload_n 0) := ⟨by decide +kernel, rfl⟩
theorem d_X7_perform_86 : Dc cX7_perform 86 3 89 (.invokevirtual 206) := ⟨by decide +kernel, rfl⟩
theorem d_X7_perform_89 : Dc cX7_perform 89 1 90 (.iload_n 1) := ⟨by decide +kernel, rfl⟩
theorem d_X7_perform_90 : decode cX7_perform 90 = .ok (.ireturn, 1) := by decide +kernel
set_option maxHeartbeats 4000000 in
set_option maxRecDepth 20000 in
theorem c_X7_perform {E : Ev} {n : Nat} {M : Mem} {m : Nat} {s a sn tx : Int → Int} {H : Int → Int → Int} {kn kp ln st se sp wr le f1 f2 f3 f4 f5 sb : Int} (ht : txB tx ln) (hO : Ok s) (hkn : 0 ≤ kn ∧ kn ≤ 4) : MT E yX7_perform cX7_perform 3 (some .int) 13 0 0 [.ref m] n (md E M m s a (hOf H) sn tx kn kp ln st se sp wr le f1 f2 f3 f4 f5 sb) ((fun v n' M' => v = some (.int (iI (a_perform (s, H, kn, sn, kp, tx, ln, st, se)).1)) ∧ n' = n ∧ ∃ (a : Int → Int) (sp wr le f1 f2 f3 f4 f5 sb : Int), M' = MdA E M m (a_perform (s, H, kn, sn, kp, tx, ln, st, se)).2 a sp wr le f1 f2 f3 f4 f5 sb)) := by
  refine MT.of (by decide) rfl (Nat.le_of_ble_eq_true rfl) ?_
  intro X g
  have g0 := g.1
  show V E X 0 0 n (md E M m s a (hOf H) sn tx kn kp ln st se sp wr le f1 f2 f3 f4 f5 sb) 0 [some (.ref m), none, none] []
  have hw := RF_w (tx := tx) (ln := ln) 61 0 0
  have hb := RT_b (tx := tx) (ln := ln) 61 (sp := 0) (n := 0) hO
  refine V.al0 g0 d_X7_perform_0 ?_
  refine V.iconst g0 d_X7_perform_1 ?_
  refine V.callV g0 (c_X7_reads0 ht) ky_X7_reads ki_X7_reads ks2_X7_reads lk_X7_202 (by first | exact md_0 | exact md_1 | exact md_2 | exact md_3 | exact md_4 | exact md_5) rfl rfl (Nat.le_of_ble_eq_true rfl) ⟨Nat.zero_le _, Nat.zero_le _⟩ rfl rfl (Nat.le_of_ble_eq_true rfl) d_X7_perform_2 (fun v_2 n_2 M_2 h_2 => ?_)
  obtain ⟨rfl, e2, le0, g1, g2, g3, g4, g5, rfl⟩ := h_2
  replace e2 := e2.symm
  subst e2
  refine V.is1 g0 d_X7_perform_5 ?_
  refine V.al0 g0 d_X7_perform_6 ?_
  refine V.getf g0 d_X7_perform_7 fl_X7_150 (by first | exact md_0 | exact md_1 | exact md_2 | exact md_3 | exact md_4 | exact md_5) (by rfl) ?_
  refine V.ifeq g0 d_X7_perform_10 (by omega) (fun c_10 => ?_) (fun c_10 => ?_)
  · skip
    refine V.iconst g0 d_X7_perform_21 ?_
    refine V.is2 g0 d_X7_perform_22 ?_
    have LP : ∀ (f i : Nat), i + f = 622 → V E X 0 0 n (md E M m s (mixI i s a) (hOf H) sn tx kn kp ln st se ((RF tx ln 61 0 0).2.1) ((RF tx ln 61 0 0).2.2) le0 g1 g2 g3 g4 g5 0) 23 [some (.ref m), some (.int (iI ((RF tx ln 61 0 0).1))), some (.int (iI (i : Int)))] [] := by
      intro f
      induction f using Nat.strongRecOn with
      | _ f ih =>
      intro i hf
      refine V.il2 g0 d_X7_perform_23 ?_
      refine V.sipush g0 d_X7_perform_24 (by decide) ?_
      refine V.icmpge g0 d_X7_perform_27 (by omega) (fun c_27 => ?_) (fun c_27 => ?_)
      · skip
        refine V.rep (h := s) md_2 (fun j h0 h1 => mixI_in s a h0 (by omega)) ?_
        refine V.eqM md_u2 ?_
        refine V.al0 g0 d_X7_perform_48 ?_
        refine V.iconst g0 d_X7_perform_49 ?_
        refine V.callV g0 (c_X7_reads1 ht hO c_10) ky_X7_reads ki_X7_reads ks2_X7_reads lk_X7_202 (by first | exact md_0 | exact md_1 | exact md_2 | exact md_3 | exact md_4 | exact md_5) rfl rfl (Nat.le_of_ble_eq_true rfl) ⟨Nat.zero_le _, Nat.zero_le _⟩ rfl rfl (Nat.le_of_ble_eq_true rfl) d_X7_perform_50 (fun v_50 n_50 M_50 h_50 => ?_)
        obtain ⟨rfl, e2, sp1, wr1, le1, k1, k2, k3, k4, k5, rfl⟩ := h_50
        replace e2 := e2.symm
        subst e2
        refine V.is1 g0 d_X7_perform_53 ?_
        refine V.al0 g0 d_X7_perform_54 ?_
        refine V.callVf g0 c_X7_exchanges ky_X7_exchanges ki_X7_exchanges ks2_X7_exchanges lk_X7_206 (by first | exact md_0 | exact md_1 | exact md_2 | exact md_3 | exact md_4 | exact md_5) rfl rfl (Nat.le_of_ble_eq_true rfl) ⟨Nat.zero_le _, Nat.zero_le _⟩ rfl rfl (Nat.le_of_ble_eq_true rfl) d_X7_perform_55 ?_
        refine V.al0 g0 d_X7_perform_58 ?_
        refine V.getf g0 d_X7_perform_59 fl_X7_190 (by first | exact md_0 | exact md_1 | exact md_2 | exact md_3 | exact md_4 | exact md_5) (by rfl) ?_
        refine V.ifeq g0 d_X7_perform_62 (by omega) (fun c_62 => ?_) (fun c_62 => ?_)
        · skip
          refine V.al0 g0 d_X7_perform_81 ?_
          refine V.callVf g0 (c_X7_record hkn) ky_X7_record ki_X7_record ks2_X7_record lk_X7_117 (by first | exact md_0 | exact md_1 | exact md_2 | exact md_3 | exact md_4 | exact md_5) rfl rfl (Nat.le_of_ble_eq_true rfl) ⟨Nat.zero_le _, Nat.zero_le _⟩ rfl rfl (Nat.le_of_ble_eq_true rfl) d_X7_perform_82 ?_
          refine V.al0 g0 d_X7_perform_85 ?_
          refine V.callVf g0 c_X7_exchanges ky_X7_exchanges ki_X7_exchanges ks2_X7_exchanges lk_X7_206 (by first | exact md_0 | exact md_1 | exact md_2 | exact md_3 | exact md_4 | exact md_5) rfl rfl (Nat.le_of_ble_eq_true rfl) ⟨Nat.zero_le _, Nat.zero_le _⟩ rfl rfl (Nat.le_of_ble_eq_true rfl) d_X7_perform_86 ?_
          refine V.il1 g0 d_X7_perform_89 ?_
          refine V.iret g d_X7_perform_90 (Nat.zero_le _) (Nat.zero_le _) ?_
          have e : a_perform (s, H, kn, sn, kp, tx, ln, st, se) = ((RT tx ln 61 0 0 s).1, recA (s, H, kn, sn, kp, tx, ln, st, se) (RT tx ln 61 0 0 s).2.2) := (if_neg (fun q => q c_10)).trans (if_neg (fun q => q c_62))
          rw [e]; exact ⟨rfl, rfl, _, _, _, _, _, _, _, _, _, _, rfl⟩
        · skip
          refine V.al0 g0 d_X7_perform_65 ?_
          refine V.il1 g0 d_X7_perform_66 ?_
          refine V.putf g0 d_X7_perform_67 fp_X7_25 (by first | exact md_0 | exact md_1 | exact md_2 | exact md_3 | exact md_4 | exact md_5) (Nat.le_of_ble_eq_true rfl) rfl rfl ?_
          first | refine V.eqM md_u1 ?_ | refine V.eqM md_u2 ?_ | refine V.eqM md_u3 ?_ | refine V.eqM md_u4 ?_ | refine V.eqM md_u5 ?_ | refine V.eqM md_u0 ?_
          refine V.al0 g0 d_X7_perform_70 ?_
          refine V.al0 g0 d_X7_perform_71 ?_
          refine V.getf g0 d_X7_perform_72 fl_X7_190 (by first | exact md_0 | exact md_1 | exact md_2 | exact md_3 | exact md_4 | exact md_5) (by rfl) ?_
          refine V.putf g0 d_X7_perform_75 fp_X7_29 (by first | exact md_0 | exact md_1 | exact md_2 | exact md_3 | exact md_4 | exact md_5) (Nat.le_of_ble_eq_true rfl) rfl rfl ?_
          first | refine V.eqM md_u1 ?_ | refine V.eqM md_u2 ?_ | refine V.eqM md_u3 ?_ | refine V.eqM md_u4 ?_ | refine V.eqM md_u5 ?_ | refine V.eqM md_u0 ?_
          refine V.bipush g0 d_X7_perform_78 (by decide) ?_
          refine V.iret g d_X7_perform_80 (Nat.zero_le _) (Nat.zero_le _) ?_
          have e : a_perform (s, H, kn, sn, kp, tx, ln, st, se) = (-4, (s, H, kn, sn, kp, tx, ln, (RT tx ln 61 0 0 s).1, (RT tx ln 61 0 0 s).2.1)) := (if_neg (fun q => q c_10)).trans (if_pos c_62)
          rw [e]; exact ⟨rfl, rfl, _, _, _, _, _, _, _, _, _, _, rfl⟩
      · skip
        refine V.al0 g0 d_X7_perform_30 ?_
        refine V.getf g0 d_X7_perform_31 fl_X7_13 (by first | exact md_0 | exact md_1 | exact md_2 | exact md_3 | exact md_4 | exact md_5) (by rfl) ?_
        refine V.il2 g0 d_X7_perform_34 ?_
        refine V.al0 g0 d_X7_perform_35 ?_
        refine V.getf g0 d_X7_perform_36 fl_X7_7 (by first | exact md_0 | exact md_1 | exact md_2 | exact md_3 | exact md_4 | exact md_5) (by rfl) ?_
        refine V.il2 g0 d_X7_perform_39 ?_
        refine V.iald g0 d_X7_perform_40 (by first | exact md_0 | exact md_1 | exact md_2 | exact md_3 | exact md_4 | exact md_5) (by omega) (by decide) ?_
        refine V.iast g0 d_X7_perform_41 (by first | exact md_0 | exact md_1 | exact md_2 | exact md_3 | exact md_4 | exact md_5) (by omega) (by decide) ?_
        first | refine V.eqM md_u1 ?_ | refine V.eqM md_u2 ?_ | refine V.eqM md_u3 ?_ | refine V.eqM md_u4 ?_ | refine V.eqM md_u5 ?_ | refine V.eqM md_u0 ?_
        rw [mixI_s]
        refine V.inc2 g0 d_X7_perform_42 ?_
        refine V.goto g0 d_X7_perform_45 ?_
        exact ih (f - 1) (by omega) (i + 1) (by omega)
    exact V.eqM (by rw [mixI_0]) (LP 622 0 rfl)
  · skip
    refine V.bipush g0 d_X7_perform_13 (by decide) ?_
    refine V.al0 g0 d_X7_perform_15 ?_
    refine V.getf g0 d_X7_perform_16 fl_X7_154 (by first | exact md_0 | exact md_1 | exact md_2 | exact md_3 | exact md_4 | exact md_5) (by rfl) ?_
    refine V.isub g0 d_X7_perform_19 ?_
    refine V.iret g d_X7_perform_20 (Nat.zero_le _) (Nat.zero_le _) ?_
    have e : a_perform (s, H, kn, sn, kp, tx, ln, st, se) = (-100 - (RF tx ln 61 0 0).2.1, (s, H, kn, sn, kp, tx, ln, st, se)) := if_pos c_10
    rw [e]; exact ⟨rfl, rfl, _, _, _, _, _, _, _, _, _, _, rfl⟩
