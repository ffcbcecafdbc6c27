theorem d_X3_append_0 : Dc cX3_append 0 1 1 (.aload_n 0) := ⟨by decide +kernel, rfl⟩
theorem d_X3_append_1 : Dc cX3_append 1 3 4 (.getfield 15) := ⟨by decide +kernel, rfl⟩
theorem d_X3_append_4 : Dc cX3_append 4 2 6 (.bipush 60) := ⟨by decide +kernel, rfl⟩
theorem d_X3_append_6 : Dj cX3_append 6 9 12 (.if_icmp .lt) := ⟨6, by decide +kernel, rfl, by decide⟩
theorem d_X3_append_9 : Dc cX3_append 9 2 11 (.bipush (-3)) := ⟨by decide +kernel, rfl⟩
theorem d_X3_append_11 : decode cX3_append 11 = .ok (.ireturn, 1) := by decide +kernel
theorem d_X3_append_12 : Dc cX3_append 12 1 13 (.aload_n 0) := ⟨by decide +kernel, rfl⟩
theorem d_X3_append_13 : Dc cX3_append 13 3 16 (.getfield 9) := ⟨by decide +kernel, rfl⟩
theorem d_X3_append_16 : Dc cX3_append 16 1 17 (.aload_n 0) := ⟨by decide +kernel, rfl⟩
theorem d_X3_append_17 : Dc cX3_append 17 3 20 (.getfield 15) := ⟨by decide +kernel, rfl⟩
theorem d_X3_append_20 : Dc cX3_append 20 1 21 (.iload_n 1) := ⟨by decide +kernel, rfl⟩
theorem d_X3_append_21 : Dc cX3_append 21 1 22 .castore := ⟨by decide +kernel, rfl⟩
theorem d_X3_append_22 : Dc cX3_append 22 1 23 (.aload_n 0) := ⟨by decide +kernel, rfl⟩
theorem d_X3_append_23 : Dc cX3_append 23 1 24 .dup := ⟨by decide +kernel, rfl⟩
theorem d_X3_append_24 : Dc cX3_append 24 3 27 (.getfield 15) := ⟨by decide +kernel, rfl⟩
theorem d_X3_append_27 : Dc cX3_append 27 1 28 (.iconst 1) := ⟨by decide +kernel, rfl⟩
theorem d_X3_append_28 : Dc cX3_append 28 1 29 .iadd := ⟨by decide +kernel, rfl⟩
theorem d_X3_append_29 : Dc cX3_append 29 3 32 (.putfield 15) := ⟨by decide +kernel, rfl⟩
theorem d_X3_append_32 : Dc cX3_append 32 1 33 (.aload_n 0) := ⟨by decide +kernel, rfl⟩
theorem d_X3_append_33 : Dc cX3_append 33 3 36 (.getfield 15) := ⟨by decide +kernel, rfl⟩
theorem d_X3_append_36 : decode cX3_append 36 = .ok (.ireturn, 1) := by decide +kernel
set_option maxHeartbeats 4000000 in
set_option maxRecDepth 20000 in
theorem c_X3_append {E : Ev} {n : Nat} {M : Mem} {m : Nat} {tx : Int → Int} {ln th nx ki pa co fo fr un da : Int} (ht : txB tx ln) (hs : 0 ≤ nx ∧ nx ≤ ln) {c : Int} (hc : 0 ≤ c ∧ c < 65536) : MT E yX3_append cX3_append 2 (some .int) 0 0 0 [.ref m, .int (iI c)] n (xtU E M m tx ln th nx ki pa co fo fr un da) ((PF (some (.int (iI (if ln = 60 then -3 else ln + 1)))) n (if ln = 60 then xtU E M m tx ln th nx ki pa co fo fr un da else xtU E M m (upI tx ln c) (ln + 1) th nx ki pa co fo fr un da))) := by
  refine MT.of (by decide) rfl (Nat.le_of_ble_eq_true rfl) ?_
  intro X g
  have g0 := g.1
  show V E X 0 0 n (xtU E M m tx ln th nx ki pa co fo fr un da) 0 [some (.ref m), some (.int (iI c))] []
  have htx := ht.2
  have hl := ht.1
  refine V.al0 g0 d_X3_append_0 ?_
  refine V.getf g0 d_X3_append_1 fl_X3_15 (by first | exact xt_0 | exact xt_1) (by rfl) ?_
  refine V.bipush g0 d_X3_append_4 (by decide) ?_
  refine V.icmplt g0 d_X3_append_6 (by omega) (fun c_6 => ?_) (fun c_6 => ?_)
  · skip
    refine V.al0 g0 d_X3_append_12 ?_
    refine V.getf g0 d_X3_append_13 fl_X3_9 (by first | exact xt_0 | exact xt_1) (by rfl) ?_
    refine V.al0 g0 d_X3_append_16 ?_
    refine V.getf g0 d_X3_append_17 fl_X3_15 (by first | exact xt_0 | exact xt_1) (by rfl) ?_
    refine V.il1 g0 d_X3_append_20 ?_
    refine V.cast g0 d_X3_append_21 (by first | exact xt_0 | exact xt_1) (by omega) (by decide) (by omega) ?_
    first | refine V.eqM xt_u0 ?_ | refine V.eqM xt_u1 ?_
    refine V.al0 g0 d_X3_append_22 ?_
    refine V.dup g0 d_X3_append_23 rfl ?_
    refine V.getf g0 d_X3_append_24 fl_X3_15 (by first | exact xt_0 | exact xt_1) (by rfl) ?_
    refine V.iconst g0 d_X3_append_27 ?_
    refine V.iadd g0 d_X3_append_28 ?_
    refine V.putf g0 d_X3_append_29 fp_X3_15 (by first | exact xt_0 | exact xt_1) (Nat.le_of_ble_eq_true rfl) rfl rfl ?_
    first | refine V.eqM xt_u0 ?_ | refine V.eqM xt_u1 ?_
    refine V.al0 g0 d_X3_append_32 ?_
    refine V.getf g0 d_X3_append_33 fl_X3_15 (by first | exact xt_0 | exact xt_1) (by rfl) ?_
    refine V.iret g d_X3_append_36 (Nat.zero_le _) (Nat.zero_le _) ?_
    rw [if_neg (by omega), if_neg (by omega)]; exact ⟨rfl, rfl, rfl⟩
  · skip
    refine V.bipush g0 d_X3_append_9 (by decide) ?_
    refine V.iret g d_X3_append_11 (Nat.zero_le _) (Nat.zero_le _) ?_
    rw [if_pos (by omega), if_pos (by omega)]; exact ⟨rfl, rfl, rfl⟩

theorem d_X3_empty_0 : Dc cX3_empty 0 1 1 (.aload_n 0) := ⟨by decide +kernel, rfl⟩
theorem d_X3_empty_1 : Dc cX3_empty 1 3 4 (.getfield 15) := ⟨by decide +kernel, rfl⟩
theorem d_X3_empty_4 : Dc cX3_empty 4 1 5 (.istore_n 1) := ⟨by decide +kernel, rfl⟩
theorem d_X3_empty_5 : Dc cX3_empty 5 1 6 (.aload_n 0) := ⟨by decide +kernel, rfl⟩
theorem d_X3_empty_6 : Dc cX3_empty 6 1 7 (.iconst 0) := ⟨by decide +kernel, rfl⟩
theorem d_X3_empty_7 : Dc cX3_empty 7 3 10 (.putfield 15) := ⟨by decide +kernel, rfl⟩
theorem d_X3_empty_10 : Dc cX3_empty 10 1 11 (.iload_n 1) := ⟨by decide +kernel, rfl⟩
theorem d_X3_empty_11 : decode cX3_empty 11 = .ok (.ireturn, 1) := by decide +kernel
set_option maxHeartbeats 4000000 in
set_option maxRecDepth 20000 in
theorem c_X3_empty {E : Ev} {n : Nat} {M : Mem} {m : Nat} {tx : Int → Int} {ln th nx ki pa co fo fr un da : Int} (ht : txB tx ln) (hs : 0 ≤ nx ∧ nx ≤ ln) : MT E yX3_empty cX3_empty 2 (some .int) 0 0 0 [.ref m] n (xtU E M m tx ln th nx ki pa co fo fr un da) ((PF (some (.int (iI (ln)))) n (xtU E M m tx 0 th nx ki pa co fo fr un da))) := by
  refine MT.of (by decide) rfl (Nat.le_of_ble_eq_true rfl) ?_
  intro X g
  have g0 := g.1
  show V E X 0 0 n (xtU E M m tx ln th nx ki pa co fo fr un da) 0 [some (.ref m), none] []
  have htx := ht.2
  have hl := ht.1
  refine V.al0 g0 d_X3_empty_0 ?_
  refine V.getf g0 d_X3_empty_1 fl_X3_15 (by first | exact xt_0 | exact xt_1) (by rfl) ?_
  refine V.is1 g0 d_X3_empty_4 ?_
  refine V.al0 g0 d_X3_empty_5 ?_
  refine V.iconst g0 d_X3_empty_6 ?_
  refine V.putf g0 d_X3_empty_7 fp_X3_15 (by first | exact xt_0 | exact xt_1) (Nat.le_of_ble_eq_true rfl) rfl rfl ?_
  first | refine V.eqM xt_u0 ?_ | refine V.eqM xt_u1 ?_
  refine V.il1 g0 d_X3_empty_10 ?_
  refine V.iret g d_X3_empty_11 (Nat.zero_le _) (Nat.zero_le _) ?_
  exact ⟨rfl, rfl, rfl⟩

theorem d_X3_goToStart_0 : Dc cX3_goToStart 0 1 1 (.aload_n 0) := ⟨by decide +kernel, rfl⟩
theorem d_X3_goToStart_1 : Dc cX3_goToStart 1 1 2 (.iconst 0) := ⟨by decide +kernel, rfl⟩
theorem d_X3_goToStart_2 : Dc cX3_goToStart 2 3 5 (.putfield 19) := ⟨by decide +kernel, rfl⟩
theorem d_X3_goToStart_5 : decode cX3_goToStart 5 = .ok (.return_, 1) := by decide +kernel
set_option maxHeartbeats 4000000 in
set_option maxRecDepth 20000 in
theorem c_X3_goToStart {E : Ev} {n : Nat} {M : Mem} {m : Nat} {tx : Int → Int} {ln th nx ki pa co fo fr un da : Int} (ht : txB tx ln) (hs : 0 ≤ nx ∧ nx ≤ ln) : MT E yX3_goToStart cX3_goToStart 1 none 0 0 0 [.ref m] n (xtU E M m tx ln th nx ki pa co fo fr un da) ((PF none n (xtU E M m tx ln th 0 ki pa co fo fr un da))) := by
  refine MT.of (by decide) rfl (Nat.le_of_ble_eq_true rfl) ?_
  intro X g
  have g0 := g.1
  show V E X 0 0 n (xtU E M m tx ln th nx ki pa co fo fr un da) 0 [some (.ref m)] []
  have htx := ht.2
  have hl := ht.1
  refine V.al0 g0 d_X3_goToStart_0 ?_
  refine V.iconst g0 d_X3_goToStart_1 ?_
  refine V.putf g0 d_X3_goToStart_2 fp_X3_19 (by first | exact xt_0 | exact xt_1) (Nat.le_of_ble_eq_true rfl) rfl rfl ?_
  first | refine V.eqM xt_u0 ?_ | refine V.eqM xt_u1 ?_
  refine V.vret g d_X3_goToStart_5 (Nat.zero_le _) (Nat.zero_le _) ?_
  exact ⟨rfl, rfl, rfl⟩

theorem d_X3_nextDigit_0 : Dc cX3_nextDigit 0 1 1 (.aload_n 0) := ⟨by decide +kernel, rfl⟩
theorem d_X3_nextDigit_1 : Dc cX3_nextDigit 1 3 4 (.getfield 19) := ⟨by decide +kernel, rfl⟩
theorem d_X3_nextDigit_4 : Dc cX3_nextDigit 4 1 5 (.aload_n 0) := ⟨by decide +kernel, rfl⟩
theorem d_X3_nextDigit_5 : Dc cX3_nextDigit 5 3 8 (.getfield 15) := ⟨by decide +kernel, rfl⟩
theorem d_X3_nextDigit_8 : Dj cX3_nextDigit 8 11 13 (.if_icmp .lt) := ⟨5, by decide +kernel, rfl, by decide⟩
theorem d_X3_nextDigit_11 : Dc cX3_nextDigit 11 1 12 (.iconst (-1)) := ⟨by decide +kernel, rfl⟩
theorem d_X3_nextDigit_12 : decode cX3_nextDigit 12 = .ok (.ireturn, 1) := by decide +kernel
theorem d_X3_nextDigit_13 : Dc cX3_nextDigit 13 1 14 (.aload_n 0) := ⟨by decide +kernel, rfl⟩
theorem d_X3_nextDigit_14 : Dc cX3_nextDigit 14 3 17 (.getfield 9) := ⟨by decide +kernel, rfl⟩
theorem d_X3_nextDigit_17 : Dc cX3_nextDigit 17 1 18 (.aload_n 0) := ⟨by decide +kernel, rfl⟩
theorem d_X3_nextDigit_18 : Dc cX3_nextDigit 18 3 21 (.getfield 19) := ⟨by decide +kernel, rfl⟩
theorem d_X3_nextDigit_21 : Dc cX3_nextDigit 21 1 22 .caload := ⟨by decide +kernel, rfl⟩
theorem d_X3_nextDigit_22 : Dc cX3_nextDigit 22 2 24 (.bipush 48) := ⟨by decide +kernel, rfl⟩
theorem d_X3_nextDigit_24 : Dc cX3_nextDigit 24 1 25 .isub := ⟨by decide +kernel, rfl⟩
theorem d_X3_nextDigit_25 : Dc cX3_nextDigit 25 1 26 (.istore_n 1) := ⟨by decide +kernel, rfl⟩
theorem d_X3_nextDigit_26 : Dc cX3_nextDigit 26 1 27 (.iload_n 1) := ⟨by decide +kernel, rfl⟩
theorem d_X3_nextDigit_27 : Dj cX3_nextDigit 27 30 40 (.ifCond .lt) := ⟨13, by decide +kernel, rfl, by decide⟩
theorem d_X3_nextDigit_30 : Dc cX3_nextDigit 30 1 31 (.iload_n 1) := ⟨by decide +kernel, rfl⟩
theorem d_X3_nextDigit_31 : Dc cX3_nextDigit 31 2 33 (.bipush 9) := ⟨by decide +kernel, rfl⟩
theorem d_X3_nextDigit_33 : Dj cX3_nextDigit 33 36 40 (.if_icmp .gt) := ⟨7, by decide +kernel, rfl, by decide⟩
theorem d_X3_nextDigit_36 : Dc cX3_nextDigit 36 1 37 (.iload_n 1) := ⟨by decide +kernel, rfl⟩
theorem d_X3_nextDigit_37 : Dj cX3_nextDigit 37 40 41 .goto := ⟨4, by decide +kernel, rfl, by decide⟩
theorem d_X3_nextDigit_40 : Dc cX3_nextDigit 40 1 41 (.iconst (-1)) := ⟨by decide +kernel, rfl⟩
theorem d_X3_nextDigit_41 : decode cX3_nextDigit 41 = .ok (.ireturn, 1) := by decide +kernel
set_option maxHeartbeats 4000000 in
set_option maxRecDepth 20000 in
theorem c_X3_nextDigit {E : Ev} {n : Nat} {M : Mem} {m : Nat} {tx : Int → Int} {ln th nx ki pa co fo fr un da : Int} (ht : txB tx ln) (hs : 0 ≤ nx ∧ nx ≤ ln) : MT E yX3_nextDigit cX3_nextDigit 2 (some .int) 0 0 0 [.ref m] n (xtU E M m tx ln th nx ki pa co fo fr un da) (PF (some (.int (iI (dgt tx ln nx)))) n (xtU E M m tx ln th nx ki pa co fo fr un da)) := by
  refine MT.of (by decide) rfl (Nat.le_of_ble_eq_true rfl) ?_
  intro X g
  have g0 := g.1
  show V E X 0 0 n (xtU E M m tx ln th nx ki pa co fo fr un da) 0 [some (.ref m), none] []
  have htx := ht.2
  have hl := ht.1
  have hd := dgt_c tx ln nx
  refine V.al0 g0 d_X3_nextDigit_0 ?_
  refine V.getf g0 d_X3_nextDigit_1 fl_X3_19 (by first | exact xt_0 | exact xt_1) (by rfl) ?_
  refine V.al0 g0 d_X3_nextDigit_4 ?_
  refine V.getf g0 d_X3_nextDigit_5 fl_X3_15 (by first | exact xt_0 | exact xt_1) (by rfl) ?_
  refine V.icmplt g0 d_X3_nextDigit_8 (by omega) (fun c_8 => ?_) (fun c_8 => ?_)
  · skip
    have hb := htx nx hs.1 c_8
    refine V.al0 g0 d_X3_nextDigit_13 ?_
    refine V.getf g0 d_X3_nextDigit_14 fl_X3_9 (by first | exact xt_0 | exact xt_1) (by rfl) ?_
    refine V.al0 g0 d_X3_nextDigit_17 ?_
    refine V.getf g0 d_X3_nextDigit_18 fl_X3_19 (by first | exact xt_0 | exact xt_1) (by rfl) ?_
    refine V.cald g0 d_X3_nextDigit_21 (by first | exact xt_0 | exact xt_1) (by omega) (by decide) ?_
    refine V.bipush g0 d_X3_nextDigit_22 (by decide) ?_
    refine V.isub g0 d_X3_nextDigit_24 ?_
    refine V.is1 g0 d_X3_nextDigit_25 ?_
    refine V.il1 g0 d_X3_nextDigit_26 ?_
    refine V.iflt g0 d_X3_nextDigit_27 (by omega) (fun c_27 => ?_) (fun c_27 => ?_)
    · skip
      refine V.iconst g0 d_X3_nextDigit_40 ?_
      refine V.iret g d_X3_nextDigit_41 (Nat.zero_le _) (Nat.zero_le _) ⟨congrArg (fun z => some (Value.int (iI z))) ?_, rfl, rfl⟩
      rcases hd with q | q
      · have := q.1.2.2; omega
      · exact q.2.symm
    · skip
      refine V.il1 g0 d_X3_nextDigit_30 ?_
      refine V.bipush g0 d_X3_nextDigit_31 (by decide) ?_
      refine V.icmpgt g0 d_X3_nextDigit_33 (by omega) (fun c_33 => ?_) (fun c_33 => ?_)
      · skip
        refine V.iconst g0 d_X3_nextDigit_40 ?_
        refine V.iret g d_X3_nextDigit_41 (Nat.zero_le _) (Nat.zero_le _) ⟨congrArg (fun z => some (Value.int (iI z))) ?_, rfl, rfl⟩
        rcases hd with q | q
        · have := q.1.2.2; omega
        · exact q.2.symm
      · skip
        refine V.il1 g0 d_X3_nextDigit_36 ?_
        refine V.goto g0 d_X3_nextDigit_37 ?_
        refine V.iret g d_X3_nextDigit_41 (Nat.zero_le _) (Nat.zero_le _) ⟨congrArg (fun z => some (Value.int (iI z))) ?_, rfl, rfl⟩
        rcases hd with q | q
        · exact q.2.symm
        · exact absurd ⟨rfl, c_8, by omega, by omega⟩ q.1
  · skip
    refine V.iconst g0 d_X3_nextDigit_11 ?_
    refine V.iret g d_X3_nextDigit_12 (Nat.zero_le _) (Nat.zero_le _) ⟨congrArg (fun z => some (Value.int (iI z))) ?_, rfl, rfl⟩
    rcases hd with q | q
    · have := q.1.2.1; omega
    · exact q.2.symm

theorem d_X3_take_0 : Dc cX3_take 0 1 1 (.aload_n 0) := ⟨by decide +kernel, rfl⟩
theorem d_X3_take_1 : Dc cX3_take 1 3 4 (.getfield 19) := ⟨by decide +kernel, rfl⟩
theorem d_X3_take_4 : Dc cX3_take 4 1 5 (.aload_n 0) := ⟨by decide +kernel, rfl⟩
theorem d_X3_take_5 : Dc cX3_take 5 3 8 (.getfield 15) := ⟨by decide +kernel, rfl⟩
theorem d_X3_take_8 : Dj cX3_take 8 11 36 (.if_icmp .ge) := ⟨28, by decide +kernel, rfl, by decide⟩
theorem d_X3_take_11 : Dc cX3_take 11 1 12 (.aload_n 0) := ⟨by decide +kernel, rfl⟩
theorem d_X3_take_12 : Dc cX3_take 12 3 15 (.getfield 9) := ⟨by decide +kernel, rfl⟩
theorem d_X3_take_15 : Dc cX3_take 15 1 16 (.aload_n 0) := ⟨by decide +kernel, rfl⟩
theorem d_X3_take_16 : Dc cX3_take 16 3 19 (.getfield 19) := ⟨by decide +kernel, rfl⟩
theorem d_X3_take_19 : Dc cX3_take 19 1 20 .caload := ⟨by decide +kernel, rfl⟩
theorem d_X3_take_20 : Dc cX3_take 20 1 21 (.iload_n 1) := ⟨by decide +kernel, rfl⟩
theorem d_X3_take_21 : Dj cX3_take 21 24 36 (.if_icmp .ne) := ⟨15, by decide +kernel, rfl, by decide⟩
theorem d_X3_take_24 : Dc cX3_take 24 1 25 (.aload_n 0) := ⟨by decide +kernel, rfl⟩
theorem d_X3_take_25 : Dc cX3_take 25 1 26 .dup := ⟨by decide +kernel, rfl⟩
theorem d_X3_take_26 : Dc cX3_take 26 3 29 (.getfield 19) := ⟨by decide +kernel, rfl⟩
theorem d_X3_take_29 : Dc cX3_take 29 1 30 (.iconst 1) := ⟨by decide +kernel, rfl⟩
theorem d_X3_take_30 : Dc cX3_take 30 1 31 .iadd := ⟨by decide +kernel, rfl⟩
theorem d_X3_take_31 : Dc cX3_take 31 3 34 (.putfield 19) := ⟨by decide +kernel, rfl⟩
theorem d_X3_take_34 : Dc cX3_take 34 1 35 (.iconst 1) := ⟨by decide +kernel, rfl⟩
theorem d_X3_take_35 : decode cX3_take 35 = .ok (.ireturn, 1) := by decide +kernel
theorem d_X3_take_36 : Dc cX3_take 36 1 37 (.iconst 0) := ⟨by decide +kernel, rfl⟩
theorem d_X3_take_37 : decode cX3_take 37 = .ok (.ireturn, 1) := by decide +kernel
set_option maxHeartbeats 4000000 in
set_option maxRecDepth 20000 in
theorem c_X3_take {E : Ev} {n : Nat} {M : Mem} {m : Nat} {tx : Int → Int} {ln th nx ki pa co fo fr un da : Int} (ht : txB tx ln) (hs : 0 ≤ nx ∧ nx ≤ ln) {c : Int} (hc : 0 ≤ c ∧ c < 65536) : MT E yX3_take cX3_take 2 (some .boolean) 0 0 0 [.ref m, .int (iI c)] n (xtU E M m tx ln th nx ki pa co fo fr un da) ((PF (some (.int (iI (bI (nxt tx ln nx 0 c c))))) n (xtU E M m tx ln th (nx + bI (nxt tx ln nx 0 c c)) ki pa co fo fr un da))) := by
  refine MT.of (by decide) rfl (Nat.le_of_ble_eq_true rfl) ?_
  intro X g
  have g0 := g.1
  show V E X 0 0 n (xtU E M m tx ln th nx ki pa co fo fr un da) 0 [some (.ref m), some (.int (iI c))] []
  have htx := ht.2
  have hl := ht.1
  refine V.al0 g0 d_X3_take_0 ?_
  refine V.getf g0 d_X3_take_1 fl_X3_19 (by first | exact xt_0 | exact xt_1) (by rfl) ?_
  refine V.al0 g0 d_X3_take_4 ?_
  refine V.getf g0 d_X3_take_5 fl_X3_15 (by first | exact xt_0 | exact xt_1) (by rfl) ?_
  refine V.icmpge g0 d_X3_take_8 (by omega) (fun c_8 => ?_) (fun c_8 => ?_)
  · skip
    have hz : ¬ nxt tx ln nx 0 c c := fun q => by have := q.2.1; omega
    refine V.iconst g0 d_X3_take_36 ?_
    refine V.zret g d_X3_take_37 (by first | exact Or.inl rfl | exact Or.inr rfl | exact bI_01 _) (Nat.zero_le _) (Nat.zero_le _) ?_
    rw [bI_f hz, Int.add_zero nx]; exact ⟨rfl, rfl, rfl⟩
  · skip
    have hb := htx nx hs.1 (by omega)
    refine V.al0 g0 d_X3_take_11 ?_
    refine V.getf g0 d_X3_take_12 fl_X3_9 (by first | exact xt_0 | exact xt_1) (by rfl) ?_
    refine V.al0 g0 d_X3_take_15 ?_
    refine V.getf g0 d_X3_take_16 fl_X3_19 (by first | exact xt_0 | exact xt_1) (by rfl) ?_
    refine V.cald g0 d_X3_take_19 (by first | exact xt_0 | exact xt_1) (by omega) (by decide) ?_
    refine V.il1 g0 d_X3_take_20 ?_
    refine V.icmpne g0 d_X3_take_21 (by omega) (fun c_21 => ?_) (fun c_21 => ?_)
    · skip
      have hz : ¬ nxt tx ln nx 0 c c := fun q => by have := q.2.2; omega
      refine V.iconst g0 d_X3_take_36 ?_
      refine V.zret g d_X3_take_37 (by first | exact Or.inl rfl | exact Or.inr rfl | exact bI_01 _) (Nat.zero_le _) (Nat.zero_le _) ?_
      rw [bI_f hz, Int.add_zero nx]; exact ⟨rfl, rfl, rfl⟩
    · skip
      have hz : nxt tx ln nx 0 c c := ⟨rfl, by omega, by omega, by omega⟩
      refine V.al0 g0 d_X3_take_24 ?_
      refine V.dup g0 d_X3_take_25 rfl ?_
      refine V.getf g0 d_X3_take_26 fl_X3_19 (by first | exact xt_0 | exact xt_1) (by rfl) ?_
      refine V.iconst g0 d_X3_take_29 ?_
      refine V.iadd g0 d_X3_take_30 ?_
      refine V.putf g0 d_X3_take_31 fp_X3_19 (by first | exact xt_0 | exact xt_1) (Nat.le_of_ble_eq_true rfl) rfl rfl ?_
      first | refine V.eqM xt_u0 ?_ | refine V.eqM xt_u1 ?_
      refine V.iconst g0 d_X3_take_34 ?_
      refine V.zret g d_X3_take_35 (by first | exact Or.inl rfl | exact Or.inr rfl | exact bI_01 _) (Nat.zero_le _) (Nat.zero_le _) ?_
      rw [bI_t hz]; exact ⟨rfl, rfl, rfl⟩

theorem d_X3_readNumber_0 : Dc cX3_readNumber 0 1 1 (.aload_n 0) := ⟨by decide +kernel, rfl⟩
theorem d_X3_readNumber_1 : Dc cX3_readNumber 1 3 4 (.invokevirtual 73) := ⟨by decide +kernel, rfl⟩
theorem d_X3_readNumber_4 : Dc cX3_readNumber 4 1 5 (.istore_n 3) := ⟨by decide +kernel, rfl⟩
theorem d_X3_readNumber_5 : Dc cX3_readNumber 5 1 6 (.iload_n 3) := ⟨by decide +kernel, rfl⟩
theorem d_X3_readNumber_6 : Dc cX3_readNumber 6 1 7 (.iload_n 1) := ⟨by decide +kernel, rfl⟩
theorem d_X3_readNumber_7 : Dc cX3_readNumber 7 1 8 (.iload_n 2) := ⟨by decide +kernel, rfl⟩
theorem d_X3_readNumber_8 : Dc cX3_readNumber 8 3 11 (.invokestatic 77) := ⟨by decide +kernel, rfl⟩
theorem d_X3_readNumber_11 : Dj cX3_readNumber 11 14 16 (.ifCond .ne) := ⟨5, by decide +kernel, rfl, by decide⟩
theorem d_X3_readNumber_14 : Dc cX3_readNumber 14 1 15 (.iconst (-1)) := ⟨by decide +kernel, rfl⟩
theorem d_X3_readNumber_15 : decode cX3_readNumber 15 = .ok (.ireturn, 1) := by decide +kernel
theorem d_X3_readNumber_16 : Dc cX3_readNumber 16 1 17 (.iload_n 3) := ⟨by decide +kernel, rfl⟩
theorem d_X3_readNumber_17 : Dc cX3_readNumber 17 2 19 (.istore 4) := ⟨by decide +kernel, rfl⟩
theorem d_X3_readNumber_19 : Dc cX3_readNumber 19 1 20 (.aload_n 0) := ⟨by decide +kernel, rfl⟩
theorem d_X3_readNumber_20 : Dc cX3_readNumber 20 1 21 .dup := ⟨by decide +kernel, rfl⟩
theorem d_X3_readNumber_21 : Dc cX3_readNumber 21 3 24 (.getfield 19) := ⟨by decide +kernel, rfl⟩
theorem d_X3_readNumber_24 : Dc cX3_readNumber 24 1 25 (.iconst 1) := ⟨by decide +kernel, rfl⟩
theorem d_X3_readNumber_25 : Dc cX3_readNumber 25 1 26 .iadd := ⟨by decide +kernel, rfl⟩
theorem d_X3_readNumber_26 : Dc cX3_readNumber 26 3 29 (.putfield 19) := ⟨by decide +kernel, rfl⟩
theorem d_X3_readNumber_29 : Dc cX3_readNumber 29 1 30 (.aload_n 0) := ⟨by decide +kernel, rfl⟩
theorem d_X3_readNumber_30 : Dc cX3_readNumber 30 3 33 (.getfield 19) := ⟨by decide +kernel, rfl⟩
theorem d_X3_readNumber_33 : Dc cX3_readNumber 33 1 34 (.aload_n 0) := ⟨by decide +kernel, rfl⟩
theorem d_X3_readNumber_34 : Dc cX3_readNumber 34 3 37 (.getfield 15) := ⟨by decide +kernel, rfl⟩
theorem d_X3_readNumber_37 : Dj cX3_readNumber 37 40 91 (.if_icmp .ge) := ⟨54, by decide +kernel, rfl, by decide⟩
theorem d_X3_readNumber_40 : Dc cX3_readNumber 40 2 42 (.iload 4) := ⟨by decide +kernel, rfl⟩
theorem d_X3_readNumber_42 : Dj cX3_readNumber 42 45 91 (.ifCond .le) := ⟨49, by decide +kernel, rfl, by decide⟩
theorem d_X3_readNumber_45 : Dc cX3_readNumber 45 1 46 (.aload_n 0) := ⟨by decide +kernel, rfl⟩
theorem d_X3_readNumber_46 : Dc cX3_readNumber 46 3 49 (.invokevirtual 73) := ⟨by decide +kernel, rfl⟩
theorem d_X3_readNumber_49 : Dc cX3_readNumber 49 1 50 (.istore_n 3) := ⟨by decide +kernel, rfl⟩
theorem d_X3_readNumber_50 : Dc cX3_readNumber 50 1 51 (.iload_n 3) := ⟨by decide +kernel, rfl⟩
theorem d_X3_readNumber_51 : Dc cX3_readNumber 51 1 52 (.iconst (-1)) := ⟨by decide +kernel, rfl⟩
theorem d_X3_readNumber_52 : Dj cX3_readNumber 52 55 66 (.if_icmp .eq) := ⟨14, by decide +kernel, rfl, by decide⟩
theorem d_X3_readNumber_55 : Dc cX3_readNumber 55 2 57 (.iload 4) := ⟨by decide +kernel, rfl⟩
theorem d_X3_readNumber_57 : Dc cX3_readNumber 57 2 59 (.bipush 10) := ⟨by decide +kernel, rfl⟩
theorem d_X3_readNumber_59 : Dc cX3_readNumber 59 1 60 .imul := ⟨by decide +kernel, rfl⟩
theorem d_X3_readNumber_60 : Dc cX3_readNumber 60 1 61 (.iload_n 3) := ⟨by decide +kernel, rfl⟩
theorem d_X3_readNumber_61 : Dc cX3_readNumber 61 1 62 .iadd := ⟨by decide +kernel, rfl⟩
theorem d_X3_readNumber_62 : Dc cX3_readNumber 62 1 63 (.iload_n 2) := ⟨by decide +kernel, rfl⟩
theorem d_X3_readNumber_63 : Dj cX3_readNumber 63 66 69 (.if_icmp .le) := ⟨6, by decide +kernel, rfl, by decide⟩
theorem d_X3_readNumber_66 : Dc cX3_readNumber 66 2 68 (.iload 4) := ⟨by decide +kernel, rfl⟩
theorem d_X3_readNumber_68 : decode cX3_readNumber 68 = .ok (.ireturn, 1) := by decide +kernel
theorem d_X3_readNumber_69 : Dc cX3_readNumber 69 2 71 (.iload 4) := ⟨by decide +kernel, rfl⟩
theorem d_X3_readNumber_71 : Dc cX3_readNumber 71 2 73 (.bipush 10) := ⟨by decide +kernel, rfl⟩
theorem d_X3_readNumber_73 : Dc cX3_readNumber 73 1 74 .imul := ⟨by decide +kernel, rfl⟩
theorem d_X3_readNumber_74 : Dc cX3_readNumber 74 1 75 (.iload_n 3) := ⟨by decide +kernel, rfl⟩
theorem d_X3_readNumber_75 : Dc cX3_readNumber 75 1 76 .iadd := ⟨by decide +kernel, rfl⟩
theorem d_X3_readNumber_76 : Dc cX3_readNumber 76 2 78 (.istore 4) := ⟨by decide +kernel, rfl⟩
theorem d_X3_readNumber_78 : Dc cX3_readNumber 78 1 79 (.aload_n 0) := ⟨by decide +kernel, rfl⟩
theorem d_X3_readNumber_79 : Dc cX3_readNumber 79 1 80 .dup := ⟨by decide +kernel, rfl⟩
theorem d_X3_readNumber_80 : Dc cX3_readNumber 80 3 83 (.getfield 19) := ⟨by decide +kernel, rfl⟩
theorem d_X3_readNumber_83 : Dc cX3_readNumber 83 1 84 (.iconst 1) := ⟨by decide +kernel, rfl⟩
theorem d_X3_readNumber_84 : Dc cX3_readNumber 84 1 85 .iadd := ⟨by decide +kernel, rfl⟩
theorem d_X3_readNumber_85 : Dc cX3_readNumber 85 3 88 (.putfield 19) := ⟨by decide +kernel, rfl⟩
theorem d_X3_readNumber_88 : Dj cX3_readNumber 88 91 29 .goto := ⟨(-59), by decide +kernel, rfl, by decide⟩
theorem d_X3_readNumber_91 : Dc cX3_readNumber 91 2 93 (.iload 4) := ⟨by decide +kernel, rfl⟩
theorem d_X3_readNumber_93 : decode cX3_readNumber 93 = .ok (.ireturn, 1) := by decide +kernel
set_option maxHeartbeats 4000000 in
set_option maxRecDepth 20000 in
theorem c_X3_readNumber {E : Ev} {n : Nat} {M : Mem} {m : Nat} {tx : Int → Int} {ln th nx ki pa co fo fr un da : Int} (ht : txB tx ln) (hs : 0 ≤ nx ∧ nx ≤ ln) {least most : Int} (h1 : 0 ≤ least ∧ least ≤ 9) (h2 : 0 ≤ most ∧ most ≤ 999) : MT E yX3_readNumber cX3_readNumber 5 (some .int) 1 0 0 [.ref m, .int (iI least), .int (iI most)] n (xtU E M m tx ln th nx ki pa co fo fr un da) ((PF (some (.int (iI ((rn tx ln nx least most).1)))) n (xtU E M m tx ln th ((rn tx ln nx least most).2) ki pa co fo fr un da))) := by
  refine MT.of (by decide) rfl (Nat.le_of_ble_eq_true rfl) ?_
  intro X g
  have g0 := g.1
  show V E X 0 0 n (xtU E M m tx ln th nx ki pa co fo fr un da) 0 [some (.ref m), some (.int (iI least)), some (.int (iI most)), none, none] []
  have htx := ht.2
  have hl := ht.1
  have hd := dgt_c tx ln nx
  refine V.al0 g0 d_X3_readNumber_0 ?_
  refine V.callVp g0 (c_X3_nextDigit ht hs) ky_X3_nextDigit ki_X3_nextDigit ks2_X3_nextDigit lk_X3_73 (by first | exact xt_0 | exact xt_1) rfl rfl (Nat.le_of_ble_eq_true rfl) ⟨Nat.zero_le _, Nat.zero_le _⟩ rfl rfl (Nat.le_of_ble_eq_true rfl) d_X3_readNumber_1 ?_
  have hdr := dgt_b (tx := tx) (ln := ln) (sp := nx)
  refine V.is3 g0 d_X3_readNumber_4 ?_
  refine V.il3 g0 d_X3_readNumber_5 ?_
  refine V.il1 g0 d_X3_readNumber_6 ?_
  refine V.il2 g0 d_X3_readNumber_7 ?_
  refine V.callSNp g0 (c_X6_isWithin (by constructor <;> omega) (by constructor <;> omega) (by constructor <;> omega)) ky_X6_isWithin ks_X6_isWithin lk_X3_77 (Nat.le_of_ble_eq_true rfl) ⟨Nat.zero_le _, Nat.zero_le _⟩ rfl rfl (Nat.le_of_ble_eq_true rfl) d_X3_readNumber_8 ?_
  refine V.ifneB g0 d_X3_readNumber_11 (fun c_11 => ?_) (fun c_11 => ?_)
  · skip
    have hln : nx < ln := (dgt_n (tx := tx) (ln := ln) (sp := nx) (by omega)).2.1
    refine V.il3 g0 d_X3_readNumber_16 ?_
    refine V.is4 g0 d_X3_readNumber_17 ?_
    refine V.al0 g0 d_X3_readNumber_19 ?_
    refine V.dup g0 d_X3_readNumber_20 rfl ?_
    refine V.getf g0 d_X3_readNumber_21 fl_X3_19 (by first | exact xt_0 | exact xt_1) (by rfl) ?_
    refine V.iconst g0 d_X3_readNumber_24 ?_
    refine V.iadd g0 d_X3_readNumber_25 ?_
    refine V.putf g0 d_X3_readNumber_26 fp_X3_19 (by first | exact xt_0 | exact xt_1) (Nat.le_of_ble_eq_true rfl) rfl rfl ?_
    first | refine V.eqM xt_u0 ?_ | refine V.eqM xt_u1 ?_
    have LP : ∀ (f : Nat) (v s1 : Int), ln - s1 < f → 0 ≤ s1 ∧ s1 ≤ ln → 0 ≤ v ∧ v ≤ most → rn tx ln nx least most = nmL tx ln most f v s1 → V E X 0 0 n (xtU E M m tx ln th s1 ki pa co fo fr un da) 29 [some (.ref m), some (.int (iI least)), some (.int (iI most)), none, some (.int (iI v))] [] := by
      intro f
      induction f using Nat.strongRecOn with
      | _ f ih =>
      intro v s1 hf hs1 hv hR
      have hd1 := dgt_c tx ln s1
      refine V.al0 g0 d_X3_readNumber_29 ?_
      refine V.getf g0 d_X3_readNumber_30 fl_X3_19 (by first | exact xt_0 | exact xt_1) (by rfl) ?_
      refine V.al0 g0 d_X3_readNumber_33 ?_
      refine V.getf g0 d_X3_readNumber_34 fl_X3_15 (by first | exact xt_0 | exact xt_1) (by rfl) ?_
      refine V.icmpge g0 d_X3_readNumber_37 (by omega) (fun c_37 => ?_) (fun c_37 => ?_)
      · skip
        have hst : ¬ (0 < v ∧ nxt tx ln s1 0 48 57 ∧ 10 * v + tx s1 - 48 ≤ most) := fun q => by have := q.2.1.2.1; omega
        refine V.il4 g0 d_X3_readNumber_91 ?_
        refine V.iret g d_X3_readNumber_93 (Nat.zero_le _) (Nat.zero_le _) ?_
        rw [hR, nmL_stop hst]; exact ⟨rfl, rfl, rfl⟩
      · skip
        refine V.il4 g0 d_X3_readNumber_40 ?_
        refine V.ifle g0 d_X3_readNumber_42 (by omega) (fun c_42 => ?_) (fun c_42 => ?_)
        · skip
          have hst : ¬ (0 < v ∧ nxt tx ln s1 0 48 57 ∧ 10 * v + tx s1 - 48 ≤ most) := fun q => by have := q.1; omega
          refine V.il4 g0 d_X3_readNumber_91 ?_
          refine V.iret g d_X3_readNumber_93 (Nat.zero_le _) (Nat.zero_le _) ?_
          rw [hR, nmL_stop hst]; exact ⟨rfl, rfl, rfl⟩
        · skip
          refine V.al0 g0 d_X3_readNumber_45 ?_
          refine V.callVp g0 (c_X3_nextDigit ht hs1) ky_X3_nextDigit ki_X3_nextDigit ks2_X3_nextDigit lk_X3_73 (by first | exact xt_0 | exact xt_1) rfl rfl (Nat.le_of_ble_eq_true rfl) ⟨Nat.zero_le _, Nat.zero_le _⟩ rfl rfl (Nat.le_of_ble_eq_true rfl) d_X3_readNumber_46 ?_
          have hdr := dgt_b (tx := tx) (ln := ln) (sp := s1)
          refine V.is3 g0 d_X3_readNumber_49 ?_
          refine V.il3 g0 d_X3_readNumber_50 ?_
          refine V.iconst g0 d_X3_readNumber_51 ?_
          refine V.icmpeq g0 d_X3_readNumber_52 (by omega) (fun c_52 => ?_) (fun c_52 => ?_)
          · skip
            have hst : ¬ (0 < v ∧ nxt tx ln s1 0 48 57 ∧ 10 * v + tx s1 - 48 ≤ most) := by
              rcases hd1 with q | q
              · have := q.1.2.2; omega
              · exact fun w => q.1 w.2.1
            refine V.il4 g0 d_X3_readNumber_66 ?_
            refine V.iret g d_X3_readNumber_68 (Nat.zero_le _) (Nat.zero_le _) ?_
            rw [hR, nmL_stop hst]; exact ⟨rfl, rfl, rfl⟩
          · skip
            have hnx : nxt tx ln s1 0 48 57 := by
              rcases hd1 with q | q
              · exact q.1
              · omega
            have hdv : dgt tx ln s1 = tx s1 - 48 := if_pos hnx
            refine V.il4 g0 d_X3_readNumber_55 ?_
            refine V.bipush g0 d_X3_readNumber_57 (by decide) ?_
            refine V.imul g0 d_X3_readNumber_59 ?_
            refine V.il3 g0 d_X3_readNumber_60 ?_
            refine V.iadd g0 d_X3_readNumber_61 ?_
            refine V.il2 g0 d_X3_readNumber_62 ?_
            refine V.icmple g0 d_X3_readNumber_63 (by omega) (fun c_63 => ?_) (fun c_63 => ?_)
            · skip
              refine V.il4 g0 d_X3_readNumber_69 ?_
              refine V.bipush g0 d_X3_readNumber_71 (by decide) ?_
              refine V.imul g0 d_X3_readNumber_73 ?_
              refine V.il3 g0 d_X3_readNumber_74 ?_
              refine V.iadd g0 d_X3_readNumber_75 ?_
              refine V.is4 g0 d_X3_readNumber_76 ?_
              refine V.al0 g0 d_X3_readNumber_78 ?_
              refine V.dup g0 d_X3_readNumber_79 rfl ?_
              refine V.getf g0 d_X3_readNumber_80 fl_X3_19 (by first | exact xt_0 | exact xt_1) (by rfl) ?_
              refine V.iconst g0 d_X3_readNumber_83 ?_
              refine V.iadd g0 d_X3_readNumber_84 ?_
              refine V.putf g0 d_X3_readNumber_85 fp_X3_19 (by first | exact xt_0 | exact xt_1) (Nat.le_of_ble_eq_true rfl) rfl rfl ?_
              first | refine V.eqM xt_u0 ?_ | refine V.eqM xt_u1 ?_
              refine V.goto g0 d_X3_readNumber_88 ?_
              rw [show v * 10 + dgt tx ln s1 = 10 * v + tx s1 - 48 by omega]
              exact V.weak2 (ih (f - 1) (by omega) _ _ (by omega) (by omega) (by omega) (by rw [hR, nmL_step (by omega) ⟨by omega, hnx, by omega⟩])) (lcLe_s (lcLe_s (lcLe_s (lcLe_f (lcLe_s lcLe_n)))))
            · skip
              have hst : ¬ (0 < v ∧ nxt tx ln s1 0 48 57 ∧ 10 * v + tx s1 - 48 ≤ most) := fun q => by have := q.2.2; omega
              refine V.il4 g0 d_X3_readNumber_66 ?_
              refine V.iret g d_X3_readNumber_68 (Nat.zero_le _) (Nat.zero_le _) ?_
              rw [hR, nmL_stop hst]; exact ⟨rfl, rfl, rfl⟩
    exact V.weak2 (LP 61 _ _ (by omega) (by omega) (by omega) (if_pos c_11)) (lcLe_s (lcLe_s (lcLe_s (lcLe_f (lcLe_s lcLe_n)))))
  · skip
    refine V.iconst g0 d_X3_readNumber_14 ?_
    refine V.iret g d_X3_readNumber_15 (Nat.zero_le _) (Nat.zero_le _) ?_
    rw [show rn tx ln nx least most = (-1, nx) from if_neg c_11]; exact ⟨rfl, rfl, rfl⟩
