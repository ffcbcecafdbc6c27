theorem d_X1_place_0 : Dc cX1_place 0 1 1 (.aload_n 0) := ⟨by decide +kernel, rfl⟩
theorem d_X1_place_1 : Dc cX1_place 1 3 4 (.getfield 14) := ⟨by decide +kernel, rfl⟩
theorem d_X1_place_4 : Dc cX1_place 4 3 7 (.invokevirtual 62) := ⟨by decide +kernel, rfl⟩
theorem d_X1_place_7 : decode cX1_place 7 = .ok (.ireturn, 1) := by decide +kernel
set_option maxHeartbeats 4000000 in
set_option maxRecDepth 20000 in
theorem c_X1_place {E : Ev} {n : Nat} {M : Mem} {m : Nat} {hm os nb jk bk : Int} {jd jp bd bp bc : Int → Int} {vs : Int → Option Nat} (hH : HoM E M m hm os nb jd jp jk bd bp bk bc vs) (hj : 0 ≤ jk ∧ jk < 61) : MT E yX1_place cX1_place 1 (some .int) 1 0 0 [.ref m] n M (PF (some (.int (iI (jp jk)))) n (M)) := by
  refine MT.of (by decide) rfl (Nat.le_of_ble_eq_true rfl) ?_
  intro X g
  have g0 := g.1
  show V E X 0 0 n M 0 [some (.ref m)] []
  have h0 := hH.h0
  have h1 := hH.h1
  have h4 := hH.h4
  have h5 := hH.h5
  have h9 := hH.h9
  refine V.al0 g0 d_X1_place_0 ?_
  refine V.getf g0 d_X1_place_1 fl_X1_14 (by assumption) (by rfl) ?_
  refine V.callVp g0 (c_X4_lastPlace0 hH.tr (by decide) hj) ky_X4_lastPlace ki_X4_lastPlace ks2_X4_lastPlace lk_X1_62 (by assumption) rfl rfl (Nat.le_of_ble_eq_true rfl) ⟨Nat.zero_le _, Nat.zero_le _⟩ rfl rfl (Nat.le_of_ble_eq_true rfl) d_X1_place_4 ?_
  refine V.iret g d_X1_place_7 (Nat.zero_le _) (Nat.zero_le _) ⟨congrArg (fun z => some (Value.int (iI z))) ?_, rfl, rfl⟩
  rfl

set_option maxHeartbeats 4000000 in
set_option maxRecDepth 20000 in
theorem c_X1_placeS {E : Ev} {n : Nat} {M : Mem} {m : Nat} {hm os nb jk bk : Int} {jd jp bd bp bc : Int → Int} {vs : Int → Option Nat} (hH : HoM E M m hm os nb jd jp jk bd bp bk bc vs) {s : Int → Int} {p : Int} (hR : HolR s p hm os nb jd jp jk bd bp bk bc) (hk : OkP s p) : MT E yX1_place cX1_place 1 (some .int) 1 0 0 [.ref m] n M (PF (some (.int (iI (s (103 * p + 2))))) n (M)) := by
  refine MT.of (by decide) rfl (Nat.le_of_ble_eq_true rfl) ?_
  intro X g
  have g0 := g.1
  show V E X 0 0 n M 0 [some (.ref m)] []
  have h0 := hH.h0
  have h1 := hH.h1
  have h4 := hH.h4
  have h5 := hH.h5
  have h9 := hH.h9
  have hj := hR.jOk hk
  have hb := hR.bOk hk
  refine V.al0 g0 d_X1_place_0 ?_
  refine V.getf g0 d_X1_place_1 fl_X1_14 (by assumption) (by rfl) ?_
  refine V.callVp g0 (c_X4_lastPlace hH.tr hj) ky_X4_lastPlace ki_X4_lastPlace ks2_X4_lastPlace lk_X1_62 (by assumption) rfl rfl (Nat.le_of_ble_eq_true rfl) ⟨Nat.zero_le _, Nat.zero_le _⟩ rfl rfl (Nat.le_of_ble_eq_true rfl) d_X1_place_4 ?_
  refine V.iret g d_X1_place_7 (Nat.zero_le _) (Nat.zero_le _) ⟨congrArg (fun z => some (Value.int (iI z))) ?_, rfl, rfl⟩
  rw [(hR.2.1 jk hj.1.1 (by omega)).2, hR.1.2.2.2.1]; exact hk.here.symm

theorem d_X1_toldPlace_0 : Dc cX1_toldPlace 0 1 1 (.aload_n 0) := ⟨by decide +kernel, rfl⟩
theorem d_X1_toldPlace_1 : Dc cX1_toldPlace 1 3 4 (.getfield 23) := ⟨by decide +kernel, rfl⟩
theorem d_X1_toldPlace_4 : Dc cX1_toldPlace 4 3 7 (.getfield 65) := ⟨by decide +kernel, rfl⟩
theorem d_X1_toldPlace_7 : Dc cX1_toldPlace 7 3 10 (.invokevirtual 62) := ⟨by decide +kernel, rfl⟩
theorem d_X1_toldPlace_10 : decode cX1_toldPlace 10 = .ok (.ireturn, 1) := by decide +kernel
set_option maxHeartbeats 4000000 in
set_option maxRecDepth 20000 in
theorem c_X1_toldPlace {E : Ev} {n : Nat} {M : Mem} {m : Nat} {hm os nb jk bk : Int} {jd jp bd bp bc : Int → Int} {vs : Int → Option Nat} (hH : HoM E M m hm os nb jd jp jk bd bp bk bc vs) {s : Int → Int} {p : Int} (hR : HolR s p hm os nb jd jp jk bd bp bk bc) (hk : OkP s p) : MT E yX1_toldPlace cX1_toldPlace 1 (some .int) 1 0 0 [.ref m] n M (PF (some (.int (iI (bP s p (s (103 * p + 8)))))) n (M)) := by
  refine MT.of (by decide) rfl (Nat.le_of_ble_eq_true rfl) ?_
  intro X g
  have g0 := g.1
  show V E X 0 0 n M 0 [some (.ref m)] []
  have h0 := hH.h0
  have h1 := hH.h1
  have h4 := hH.h4
  have h5 := hH.h5
  have h9 := hH.h9
  have hj := hR.jOk hk
  have hb := hR.bOk hk
  refine V.al0 g0 d_X1_toldPlace_0 ?_
  refine V.getf g0 d_X1_toldPlace_1 fl_X1_23 (by assumption) (by rfl) ?_
  refine V.getf g0 d_X1_toldPlace_4 fl_X1_65 (by assumption) (by rfl) ?_
  refine V.callVp g0 (c_X4_lastPlace hH.bo.tr hb.1) ky_X4_lastPlace ki_X4_lastPlace ks2_X4_lastPlace lk_X1_62 (by assumption) rfl rfl (Nat.le_of_ble_eq_true rfl) ⟨Nat.zero_le _, Nat.zero_le _⟩ rfl rfl (Nat.le_of_ble_eq_true rfl) d_X1_toldPlace_7 ?_
  refine V.iret g d_X1_toldPlace_10 (Nat.zero_le _) (Nat.zero_le _) ⟨congrArg (fun z => some (Value.int (iI z))) ?_, rfl, rfl⟩
  rw [(hR.2.2.1 bk hb.1.1.1 (by omega)).2, hR.1.2.2.2.2]

theorem d_X1_crossings_0 : Dc cX1_crossings 0 1 1 (.aload_n 0) := ⟨by decide +kernel, rfl⟩
theorem d_X1_crossings_1 : Dc cX1_crossings 1 3 4 (.getfield 14) := ⟨by decide +kernel, rfl⟩
theorem d_X1_crossings_4 : Dc cX1_crossings 4 3 7 (.getfield 68) := ⟨by decide +kernel, rfl⟩
theorem d_X1_crossings_7 : decode cX1_crossings 7 = .ok (.ireturn, 1) := by decide +kernel
set_option maxHeartbeats 4000000 in
set_option maxRecDepth 20000 in
theorem c_X1_crossings {E : Ev} {n : Nat} {M : Mem} {m : Nat} {hm os nb jk bk : Int} {jd jp bd bp bc : Int → Int} {vs : Int → Option Nat} (hH : HoM E M m hm os nb jd jp jk bd bp bk bc vs) {s : Int → Int} {p : Int} (hR : HolR s p hm os nb jd jp jk bd bp bk bc) (hk : OkP s p) : MT E yX1_crossings cX1_crossings 1 (some .int) 0 0 0 [.ref m] n M (PF (some (.int (iI (s (103 * p + 3))))) n (M)) := by
  refine MT.of (by decide) rfl (Nat.le_of_ble_eq_true rfl) ?_
  intro X g
  have g0 := g.1
  show V E X 0 0 n M 0 [some (.ref m)] []
  have h0 := hH.h0
  have h1 := hH.h1
  have h4 := hH.h4
  have h5 := hH.h5
  have h9 := hH.h9
  have hj := hR.jOk hk
  have hb := hR.bOk hk
  refine V.al0 g0 d_X1_crossings_0 ?_
  refine V.getf g0 d_X1_crossings_1 fl_X1_14 (by assumption) (by rfl) ?_
  refine V.getf g0 d_X1_crossings_4 fl_X1_68 (by assumption) (by rfl) ?_
  refine V.iret g d_X1_crossings_7 (Nat.zero_le _) (Nat.zero_le _) ⟨congrArg (fun z => some (Value.int (iI z))) ?_, rfl, rfl⟩
  exact hR.1.2.2.2.1

theorem d_X1_visaFor_0 : Dc cX1_visaFor 0 1 1 (.iload_n 1) := ⟨by decide +kernel, rfl⟩
theorem d_X1_visaFor_1 : Dj cX1_visaFor 1 4 22 (.ifCond .lt) := ⟨21, by decide +kernel, rfl, by decide⟩
theorem d_X1_visaFor_4 : Dc cX1_visaFor 4 1 5 (.iload_n 1) := ⟨by decide +kernel, rfl⟩
theorem d_X1_visaFor_5 : Dc cX1_visaFor 5 1 6 (.aload_n 0) := ⟨by decide +kernel, rfl⟩
theorem d_X1_visaFor_6 : Dc cX1_visaFor 6 3 9 (.getfield 29) := ⟨by decide +kernel, rfl⟩
theorem d_X1_visaFor_9 : Dc cX1_visaFor 9 1 10 .arraylength := ⟨by decide +kernel, rfl⟩
theorem d_X1_visaFor_10 : Dj cX1_visaFor 10 13 22 (.if_icmp .ge) := ⟨12, by decide +kernel, rfl, by decide⟩
theorem d_X1_visaFor_13 : Dc cX1_visaFor 13 1 14 (.aload_n 0) := ⟨by decide +kernel, rfl⟩
theorem d_X1_visaFor_14 : Dc cX1_visaFor 14 3 17 (.getfield 29) := ⟨by decide +kernel, rfl⟩
theorem d_X1_visaFor_17 : Dc cX1_visaFor 17 1 18 (.iload_n 1) := ⟨by decide +kernel, rfl⟩
theorem d_X1_visaFor_18 : Dc cX1_visaFor 18 1 19 .aaload := ⟨by decide +kernel, rfl⟩
theorem d_X1_visaFor_19 : Dj cX1_visaFor 19 22 23 .goto := ⟨4, by decide +kernel, rfl, by decide⟩
theorem d_X1_visaFor_22 : Dc cX1_visaFor 22 1 23 .aconst_null := ⟨by decide +kernel, rfl⟩
theorem d_X1_visaFor_23 : decode cX1_visaFor 23 = .ok (.areturn, 1) := by decide +kernel
set_option maxHeartbeats 4000000 in
set_option maxRecDepth 20000 in
theorem c_X1_visaFor {E : Ev} {n : Nat} {M : Mem} {m : Nat} {hm os nb jk bk : Int} {jd jp bd bp bc : Int → Int} {vs : Int → Option Nat} (hH : HoM E M m hm os nb jd jp jk bd bp bk bc vs) {c : Int} (hc : 0 ≤ c ∧ c < 6) : MT E yX1_visaFor cX1_visaFor 2 (some (.object "BorderStamps$Visa")) 0 0 0 [.ref m, .int (iI c)] n M ((PF (some (va_rf (vs c))) n (M))) := by
  refine MT.of (by decide) rfl (Nat.le_of_ble_eq_true rfl) ?_
  intro X g
  have g0 := g.1
  show V E X 0 0 n M 0 [some (.ref m), some (.int (iI c))] []
  have h0 := hH.h0
  have h1 := hH.h1
  have h4 := hH.h4
  have h5 := hH.h5
  have h9 := hH.h9
  refine V.il1 g0 d_X1_visaFor_0 ?_
  refine V.iflt g0 d_X1_visaFor_1 (by omega) (fun c_1 => ?_) (fun c_1 => ?_)
  · skip
    exfalso; omega
  · skip
    refine V.il1 g0 d_X1_visaFor_4 ?_
    refine V.al0 g0 d_X1_visaFor_5 ?_
    refine V.getf g0 d_X1_visaFor_6 fl_X1_29 (by assumption) (by rfl) ?_
    refine V.alen_ra g0 d_X1_visaFor_9 (by assumption) (by decide) ?_
    refine V.icmpge g0 d_X1_visaFor_10 (by omega) (fun c_10 => ?_) (fun c_10 => ?_)
    · skip
      exfalso; omega
    · skip
      refine V.al0 g0 d_X1_visaFor_13 ?_
      refine V.getf g0 d_X1_visaFor_14 fl_X1_29 (by assumption) (by rfl) ?_
      refine V.il1 g0 d_X1_visaFor_17 ?_
      refine V.aald g0 d_X1_visaFor_18 (by assumption) rfl (by omega) (by decide) ?_
      refine V.goto g0 d_X1_visaFor_19 ?_
      refine V.aret g d_X1_visaFor_23 (by cases vs c with | none => exact Or.inl rfl | some u => exact Or.inr ⟨u, rfl⟩) (Nat.zero_le _) (Nat.zero_le _) ?_
      exact ⟨rfl, rfl, rfl⟩

theorem d_X1_setVisa_0 : Dc cX1_setVisa 0 1 1 (.iload_n 1) := ⟨by decide +kernel, rfl⟩
theorem d_X1_setVisa_1 : Dj cX1_setVisa 1 4 20 (.ifCond .lt) := ⟨19, by decide +kernel, rfl, by decide⟩
theorem d_X1_setVisa_4 : Dc cX1_setVisa 4 1 5 (.iload_n 1) := ⟨by decide +kernel, rfl⟩
theorem d_X1_setVisa_5 : Dc cX1_setVisa 5 1 6 (.aload_n 0) := ⟨by decide +kernel, rfl⟩
theorem d_X1_setVisa_6 : Dc cX1_setVisa 6 3 9 (.getfield 29) := ⟨by decide +kernel, rfl⟩
theorem d_X1_setVisa_9 : Dc cX1_setVisa 9 1 10 .arraylength := ⟨by decide +kernel, rfl⟩
theorem d_X1_setVisa_10 : Dj cX1_setVisa 10 13 20 (.if_icmp .ge) := ⟨10, by decide +kernel, rfl, by decide⟩
theorem d_X1_setVisa_13 : Dc cX1_setVisa 13 1 14 (.aload_n 0) := ⟨by decide +kernel, rfl⟩
theorem d_X1_setVisa_14 : Dc cX1_setVisa 14 3 17 (.getfield 29) := ⟨by decide +kernel, rfl⟩
theorem d_X1_setVisa_17 : Dc cX1_setVisa 17 1 18 (.iload_n 1) := ⟨by decide +kernel, rfl⟩
theorem d_X1_setVisa_18 : Dc cX1_setVisa 18 1 19 (.aload_n 2) := ⟨by decide +kernel, rfl⟩
theorem d_X1_setVisa_19 : Dc cX1_setVisa 19 1 20 .aastore := ⟨by decide +kernel, rfl⟩
theorem d_X1_setVisa_20 : decode cX1_setVisa 20 = .ok (.return_, 1) := by decide +kernel
set_option maxHeartbeats 4000000 in
set_option maxRecDepth 20000 in
theorem c_X1_setVisaN {E : Ev} {n : Nat} {M : Mem} {m : Nat} {hm os nb jk bk : Int} {jd jp bd bp bc : Int → Int} {vs : Int → Option Nat} (hH : HoM E M m hm os nb jd jp jk bd bp bk bc vs) {c : Int} (hc : 0 ≤ c ∧ c < 6) : MT E yX1_setVisa cX1_setVisa 3 none 0 0 0 [.ref m, .int (iI c), .null] n M ((PF none n (hoU E M m (hm) (os) (nb) (jd) (jp) (jk) (bd) (bp) (bk) (bc) (upR vs c none)))) := by
  refine MT.of (by decide) rfl (Nat.le_of_ble_eq_true rfl) ?_
  intro X g
  have g0 := g.1
  show V E X 0 0 n M 0 [some (.ref m), some (.int (iI c)), some (.null)] []
  refine V.eqM (ho_id hH).symm ?_
  refine V.il1 g0 d_X1_setVisa_0 ?_
  refine V.iflt g0 d_X1_setVisa_1 (by omega) (fun c_1 => ?_) (fun c_1 => ?_)
  · skip
    exfalso; omega
  · skip
    refine V.il1 g0 d_X1_setVisa_4 ?_
    refine V.al0 g0 d_X1_setVisa_5 ?_
    refine V.getf g0 d_X1_setVisa_6 fl_X1_29 (by first | exact ho_M.h0 | exact ho_M.h1 | exact ho_M.h4 | exact ho_M.h5 | exact ho_M.h9 | assumption) (by rfl) ?_
    refine V.alen_ra g0 d_X1_setVisa_9 (by first | exact ho_M.h0 | exact ho_M.h1 | exact ho_M.h4 | exact ho_M.h5 | exact ho_M.h9 | assumption) (by decide) ?_
    refine V.icmpge g0 d_X1_setVisa_10 (by omega) (fun c_10 => ?_) (fun c_10 => ?_)
    · skip
      exfalso; omega
    · skip
      refine V.al0 g0 d_X1_setVisa_13 ?_
      refine V.getf g0 d_X1_setVisa_14 fl_X1_29 (by first | exact ho_M.h0 | exact ho_M.h1 | exact ho_M.h4 | exact ho_M.h5 | exact ho_M.h9 | assumption) (by rfl) ?_
      refine V.il1 g0 d_X1_setVisa_17 ?_
      refine V.alN2 g0 d_X1_setVisa_18 ?_
      refine V.aastN g0 d_X1_setVisa_19 (by first | exact ho_M.h0 | exact ho_M.h1 | exact ho_M.h4 | exact ho_M.h5 | exact ho_M.h9 | assumption) rfl (by omega) (by decide) ?_
      refine V.eqM ho_u9 ?_
      refine V.vret g d_X1_setVisa_20 (Nat.zero_le _) (Nat.zero_le _) ?_
      exact ⟨rfl, rfl, rfl⟩

set_option maxHeartbeats 4000000 in
set_option maxRecDepth 20000 in
theorem c_X1_setVisaR {E : Ev} {n : Nat} {M : Mem} {m : Nat} {hm os nb jk bk : Int} {jd jp bd bp bc : Int → Int} {vs : Int → Option Nat} (hH : HoM E M m hm os nb jd jp jk bd bp bk bc vs) {c x u w d : Int} {a : Nat} (hc : 0 ≤ c ∧ c < 6) (ha : M a = viC x u w d) (hd : a < m ∨ m + 10 ≤ a) : MT E yX1_setVisa cX1_setVisa 3 none 0 0 0 [.ref m, .int (iI c), .ref a] n M ((PF none n (hoU E M m (hm) (os) (nb) (jd) (jp) (jk) (bd) (bp) (bk) (bc) (upR vs c (some a))))) := by
  refine MT.of (by decide) rfl (Nat.le_of_ble_eq_true rfl) ?_
  intro X g
  have g0 := g.1
  show V E X 0 0 n M 0 [some (.ref m), some (.int (iI c)), some (.ref a)] []
  have ha2 : hoU E M m hm os nb jd jp jk bd bp bk bc vs a = viC x u w d := (ov_n hd).trans ha
  refine V.eqM (ho_id hH).symm ?_
  refine V.il1 g0 d_X1_setVisa_0 ?_
  refine V.iflt g0 d_X1_setVisa_1 (by omega) (fun c_1 => ?_) (fun c_1 => ?_)
  · skip
    exfalso; omega
  · skip
    refine V.il1 g0 d_X1_setVisa_4 ?_
    refine V.al0 g0 d_X1_setVisa_5 ?_
    refine V.getf g0 d_X1_setVisa_6 fl_X1_29 (by first | exact ho_M.h0 | exact ho_M.h1 | exact ho_M.h4 | exact ho_M.h5 | exact ho_M.h9 | assumption) (by rfl) ?_
    refine V.alen_ra g0 d_X1_setVisa_9 (by first | exact ho_M.h0 | exact ho_M.h1 | exact ho_M.h4 | exact ho_M.h5 | exact ho_M.h9 | assumption) (by decide) ?_
    refine V.icmpge g0 d_X1_setVisa_10 (by omega) (fun c_10 => ?_) (fun c_10 => ?_)
    · skip
      exfalso; omega
    · skip
      refine V.al0 g0 d_X1_setVisa_13 ?_
      refine V.getf g0 d_X1_setVisa_14 fl_X1_29 (by first | exact ho_M.h0 | exact ho_M.h1 | exact ho_M.h4 | exact ho_M.h5 | exact ho_M.h9 | assumption) (by rfl) ?_
      refine V.il1 g0 d_X1_setVisa_17 ?_
      refine V.al2 g0 d_X1_setVisa_18 ?_
      refine V.aast g0 d_X1_setVisa_19 (by first | exact ho_M.h0 | exact ho_M.h1 | exact ho_M.h4 | exact ho_M.h5 | exact ho_M.h9 | assumption) rfl ha2 rfl (by omega) (by decide) ?_
      refine V.eqM ho_u9 ?_
      refine V.vret g d_X1_setVisa_20 (Nat.zero_le _) (Nat.zero_le _) ?_
      exact ⟨rfl, rfl, rfl⟩

theorem d_X1_usedDays_0 : Dc cX1_usedDays 0 1 1 (.aload_n 0) := ⟨by decide +kernel, rfl⟩
theorem d_X1_usedDays_1 : Dc cX1_usedDays 1 3 4 (.getfield 23) := ⟨by decide +kernel, rfl⟩
theorem d_X1_usedDays_4 : Dc cX1_usedDays 4 3 7 (.getfield 65) := ⟨by decide +kernel, rfl⟩
theorem d_X1_usedDays_7 : Dc cX1_usedDays 7 1 8 (.aload_n 1) := ⟨by decide +kernel, rfl⟩
theorem d_X1_usedDays_8 : Dc cX1_usedDays 8 3 11 (.getfield 71) := ⟨by decide +kernel, rfl⟩
theorem d_X1_usedDays_11 : Dc cX1_usedDays 11 1 12 (.aload_n 1) := ⟨by decide +kernel, rfl⟩
theorem d_X1_usedDays_12 : Dc cX1_usedDays 12 3 15 (.getfield 74) := ⟨by decide +kernel, rfl⟩
theorem d_X1_usedDays_15 : Dc cX1_usedDays 15 1 16 (.aload_n 1) := ⟨by decide +kernel, rfl⟩
theorem d_X1_usedDays_16 : Dc cX1_usedDays 16 3 19 (.getfield 77) := ⟨by decide +kernel, rfl⟩
theorem d_X1_usedDays_19 : Dc cX1_usedDays 19 1 20 (.iload_n 2) := ⟨by decide +kernel, rfl⟩
theorem d_X1_usedDays_20 : Dc cX1_usedDays 20 1 21 (.iconst 1) := ⟨by decide +kernel, rfl⟩
theorem d_X1_usedDays_21 : Dc cX1_usedDays 21 1 22 .isub := ⟨by decide +kernel, rfl⟩
theorem d_X1_usedDays_22 : Dc cX1_usedDays 22 3 25 (.invokestatic 80) := ⟨by decide +kernel, rfl⟩
theorem d_X1_usedDays_25 : Dc cX1_usedDays 25 3 28 (.invokevirtual 86) := ⟨by decide +kernel, rfl⟩
theorem d_X1_usedDays_28 : decode cX1_usedDays 28 = .ok (.ireturn, 1) := by decide +kernel
set_option maxHeartbeats 4000000 in
set_option maxRecDepth 20000 in
theorem c_X1_usedDays {E : Ev} {n : Nat} {M : Mem} {m : Nat} {hm os nb jk bk : Int} {jd jp bd bp bc : Int → Int} {vs : Int → Option Nat} (hH : HoM E M m hm os nb jd jp jk bd bp bk bc vs) {s : Int → Int} {p : Int} (hR : HolR s p hm os nb jd jp jk bd bp bk bc) (hk : OkP s p) {a : Nat} {c x w d t : Int} (ha : M a = viC c x w d) (hc : 0 ≤ c ∧ c ≤ 5) (hx : 0 ≤ x ∧ x ≤ 999) (hw : 0 ≤ w ∧ w ≤ 999) (ht : 0 ≤ t ∧ t ≤ 999) : MT E yX1_usedDays cX1_usedDays 3 (some .int) 1 0 0 [.ref m, .ref a, .int (iI t)] n M (PF (some (.int (iI (toldDays s p c x w t)))) n (M)) := by
  refine MT.of (by decide) rfl (Nat.le_of_ble_eq_true rfl) ?_
  intro X g
  have g0 := g.1
  show V E X 0 0 n M 0 [some (.ref m), some (.ref a), some (.int (iI t))] []
  have h0 := hH.h0
  have h1 := hH.h1
  have h4 := hH.h4
  have h5 := hH.h5
  have h9 := hH.h9
  have hj := hR.jOk hk
  have hb := hR.bOk hk
  unfold viC at ha
  refine V.al0 g0 d_X1_usedDays_0 ?_
  refine V.getf g0 d_X1_usedDays_1 fl_X1_23 (by assumption) (by rfl) ?_
  refine V.getf g0 d_X1_usedDays_4 fl_X1_65 (by assumption) (by rfl) ?_
  refine V.al1 g0 d_X1_usedDays_7 ?_
  refine V.getf g0 d_X1_usedDays_8 fl_X1_71 (by assumption) (by rfl) ?_
  refine V.al1 g0 d_X1_usedDays_11 ?_
  refine V.getf g0 d_X1_usedDays_12 fl_X1_74 (by assumption) (by rfl) ?_
  refine V.al1 g0 d_X1_usedDays_15 ?_
  refine V.getf g0 d_X1_usedDays_16 fl_X1_77 (by assumption) (by rfl) ?_
  refine V.il2 g0 d_X1_usedDays_19 ?_
  refine V.iconst g0 d_X1_usedDays_20 ?_
  refine V.isub g0 d_X1_usedDays_21 ?_
  refine V.callSp g0 (c_J9_min_7cf53 (by constructor <;> omega) (by constructor <;> omega)) ky_J9_min_7cf53 ks_J9_min_7cf53 lk_X1_80 (Nat.le_of_ble_eq_true rfl) ⟨Nat.zero_le _, Nat.zero_le _⟩ rfl rfl (Nat.le_of_ble_eq_true rfl) d_X1_usedDays_22 ?_
  refine V.callVp g0 (c_X4_daysIn hH.bo.tr hb.1 hc hx (by omega)) ky_X4_daysIn ki_X4_daysIn ks2_X4_daysIn lk_X1_86 (by assumption) rfl rfl (Nat.le_of_ble_eq_true rfl) ⟨Nat.zero_le _, Nat.zero_le _⟩ rfl rfl (Nat.le_of_ble_eq_true rfl) d_X1_usedDays_25 ?_
  refine V.iret g d_X1_usedDays_28 (Nat.zero_le _) (Nat.zero_le _) ⟨congrArg (fun z => some (Value.int (iI z))) ?_, rfl, rfl⟩
  exact told_eq hR hk hc.1

theorem d_X1_hasValidVisa_0 : Dc cX1_hasValidVisa 0 1 1 (.aload_n 0) := ⟨by decide +kernel, rfl⟩
theorem d_X1_hasValidVisa_1 : Dc cX1_hasValidVisa 1 1 2 (.iload_n 1) := ⟨by decide +kernel, rfl⟩
theorem d_X1_hasValidVisa_2 : Dc cX1_hasValidVisa 2 3 5 (.invokevirtual 90) := ⟨by decide +kernel, rfl⟩
theorem d_X1_hasValidVisa_5 : Dc cX1_hasValidVisa 5 1 6 (.astore_n 3) := ⟨by decide +kernel, rfl⟩
theorem d_X1_hasValidVisa_6 : Dc cX1_hasValidVisa 6 1 7 (.aload_n 3) := ⟨by decide +kernel, rfl⟩
theorem d_X1_hasValidVisa_7 : Dj cX1_hasValidVisa 7 10 22 .ifnull := ⟨15, by decide +kernel, rfl, by decide⟩
theorem d_X1_hasValidVisa_10 : Dc cX1_hasValidVisa 10 1 11 (.aload_n 3) := ⟨by decide +kernel, rfl⟩
theorem d_X1_hasValidVisa_11 : Dc cX1_hasValidVisa 11 1 12 (.iload_n 2) := ⟨by decide +kernel, rfl⟩
theorem d_X1_hasValidVisa_12 : Dc cX1_hasValidVisa 12 3 15 (.invokevirtual 94) := ⟨by decide +kernel, rfl⟩
theorem d_X1_hasValidVisa_15 : Dj cX1_hasValidVisa 15 18 22 (.ifCond .eq) := ⟨7, by decide +kernel, rfl, by decide⟩
theorem d_X1_hasValidVisa_18 : Dc cX1_hasValidVisa 18 1 19 (.iconst 1) := ⟨by decide +kernel, rfl⟩
theorem d_X1_hasValidVisa_19 : Dj cX1_hasValidVisa 19 22 23 .goto := ⟨4, by decide +kernel, rfl, by decide⟩
theorem d_X1_hasValidVisa_22 : Dc cX1_hasValidVisa 22 1 23 (.iconst 0) := ⟨by decide +kernel, rfl⟩
theorem d_X1_hasValidVisa_23 : decode cX1_hasValidVisa 23 = .ok (.ireturn, 1) := by decide +kernel
set_option maxHeartbeats 4000000 in
set_option maxRecDepth 20000 in
theorem c_X1_hasValidVisa {E : Ev} {n : Nat} {M : Mem} {m : Nat} {hm os nb jk bk : Int} {jd jp bd bp bc : Int → Int} {vs : Int → Option Nat} (hH : HoM E M m hm os nb jd jp jk bd bp bk bc vs) {s : Int → Int} {p : Int} (hR : HolR s p hm os nb jd jp jk bd bp bk bc) (hk : OkP s p) (hV : VisR M s p vs) {c t : Int} (hc : 0 ≤ c ∧ c < 6) (ht : rg t) : MT E yX1_hasValidVisa cX1_hasValidVisa 4 (some .boolean) 2 0 0 [.ref m, .int (iI c), .int (iI t)] n M (PF (some (.int (iI (bI (validOn s p c t))))) n (M)) := by
  refine MT.of (by decide) rfl (Nat.le_of_ble_eq_true rfl) ?_
  intro X g
  have g0 := g.1
  show V E X 0 0 n M 0 [some (.ref m), some (.int (iI c)), some (.int (iI t)), none] []
  have h0 := hH.h0
  have h1 := hH.h1
  have h4 := hH.h4
  have h5 := hH.h5
  have h9 := hH.h9
  have hj := hR.jOk hk
  have hb := hR.bOk hk
  have hv := hV c hc.1 hc.2
  have hvb := hk.vis hc.1 hc.2
  refine V.al0 g0 d_X1_hasValidVisa_0 ?_
  refine V.il1 g0 d_X1_hasValidVisa_1 ?_
  refine V.callVp g0 (c_X1_visaFor hH hc) ky_X1_visaFor ki_X1_visaFor ks2_X1_visaFor lk_X1_90 (by assumption) rfl rfl (Nat.le_of_ble_eq_true rfl) ⟨Nat.zero_le _, Nat.zero_le _⟩ rfl rfl (Nat.le_of_ble_eq_true rfl) d_X1_hasValidVisa_2 ?_
  rcases hv with ⟨he, hn⟩ | ⟨a, he, ha, hn⟩
  · skip
    rw [he, show va_rf none = Value.null from rfl]
    refine V.asN3 g0 d_X1_hasValidVisa_5 ?_
    refine V.alN3 g0 d_X1_hasValidVisa_6 ?_
    refine V.ifnullN g0 d_X1_hasValidVisa_7 ?_
    refine V.iconst g0 d_X1_hasValidVisa_22 ?_
    refine V.zret g d_X1_hasValidVisa_23 (by first | exact Or.inl rfl | exact Or.inr rfl | exact bI_01 _) (Nat.zero_le _) (Nat.zero_le _) ⟨congrArg (fun z => some (Value.int (iI z))) ?_, rfl, rfl⟩
    exact (bI_f (fun q => hn q.1)).symm
  · skip
    rw [he, show va_rf (some a) = Value.ref a from rfl]
    have ha2 := ha
    unfold viC at ha2
    refine V.as3 g0 d_X1_hasValidVisa_5 ?_
    refine V.al3 g0 d_X1_hasValidVisa_6 ?_
    refine V.ifnull g0 d_X1_hasValidVisa_7 ?_
    refine V.al3 g0 d_X1_hasValidVisa_10 ?_
    refine V.il2 g0 d_X1_hasValidVisa_11 ?_
    refine V.callVp g0 (c_X5_isValidOn ha (by constructor <;> omega) (by constructor <;> omega) ht) ky_X5_isValidOn ki_X5_isValidOn ks2_X5_isValidOn lk_X1_94 ha2 rfl rfl (Nat.le_of_ble_eq_true rfl) ⟨Nat.zero_le _, Nat.zero_le _⟩ rfl rfl (Nat.le_of_ble_eq_true rfl) d_X1_hasValidVisa_12 ?_
    refine V.ifeqB g0 d_X1_hasValidVisa_15 (fun c_15 => ?_) (fun c_15 => ?_)
    · skip
      refine V.iconst g0 d_X1_hasValidVisa_22 ?_
      refine V.zret g d_X1_hasValidVisa_23 (by first | exact Or.inl rfl | exact Or.inr rfl | exact bI_01 _) (Nat.zero_le _) (Nat.zero_le _) ⟨congrArg (fun z => some (Value.int (iI z))) ?_, rfl, rfl⟩
      exact (bI_f (fun q => c_15 q.2)).symm
    · skip
      refine V.iconst g0 d_X1_hasValidVisa_18 ?_
      refine V.goto g0 d_X1_hasValidVisa_19 ?_
      refine V.zret g d_X1_hasValidVisa_23 (by first | exact Or.inl rfl | exact Or.inr rfl | exact bI_01 _) (Nat.zero_le _) (Nat.zero_le _) ⟨congrArg (fun z => some (Value.int (iI z))) ?_, rfl, rfl⟩
      exact (bI_t ⟨hn, c_15⟩).symm

theorem d_X1_mayBeIn_0 : Dc cX1_mayBeIn 0 1 1 (.iload_n 1) := ⟨by decide +kernel, rfl⟩
theorem d_X1_mayBeIn_1 : Dc cX1_mayBeIn 1 1 2 (.aload_n 0) := ⟨by decide +kernel, rfl⟩
theorem d_X1_mayBeIn_2 : Dc cX1_mayBeIn 2 3 5 (.getfield 33) := ⟨by decide +kernel, rfl⟩
theorem d_X1_mayBeIn_5 : Dj cX1_mayBeIn 5 8 10 (.if_icmp .ne) := ⟨5, by decide +kernel, rfl, by decide⟩
theorem d_X1_mayBeIn_8 : Dc cX1_mayBeIn 8 1 9 (.iconst 1) := ⟨by decide +kernel, rfl⟩
theorem d_X1_mayBeIn_9 : decode cX1_mayBeIn 9 = .ok (.ireturn, 1) := by decide +kernel
theorem d_X1_mayBeIn_10 : Dc cX1_mayBeIn 10 1 11 (.aload_n 0) := ⟨by decide +kernel, rfl⟩
theorem d_X1_mayBeIn_11 : Dc cX1_mayBeIn 11 1 12 (.iload_n 1) := ⟨by decide +kernel, rfl⟩
theorem d_X1_mayBeIn_12 : Dc cX1_mayBeIn 12 3 15 (.invokevirtual 90) := ⟨by decide +kernel, rfl⟩
theorem d_X1_mayBeIn_15 : Dc cX1_mayBeIn 15 1 16 (.astore_n 3) := ⟨by decide +kernel, rfl⟩
theorem d_X1_mayBeIn_16 : Dc cX1_mayBeIn 16 1 17 (.aload_n 3) := ⟨by decide +kernel, rfl⟩
theorem d_X1_mayBeIn_17 : Dj cX1_mayBeIn 17 20 45 .ifnull := ⟨28, by decide +kernel, rfl, by decide⟩
theorem d_X1_mayBeIn_20 : Dc cX1_mayBeIn 20 1 21 (.aload_n 3) := ⟨by decide +kernel, rfl⟩
theorem d_X1_mayBeIn_21 : Dc cX1_mayBeIn 21 1 22 (.iload_n 2) := ⟨by decide +kernel, rfl⟩
theorem d_X1_mayBeIn_22 : Dc cX1_mayBeIn 22 3 25 (.invokevirtual 94) := ⟨by decide +kernel, rfl⟩
theorem d_X1_mayBeIn_25 : Dj cX1_mayBeIn 25 28 45 (.ifCond .eq) := ⟨20, by decide +kernel, rfl, by decide⟩
theorem d_X1_mayBeIn_28 : Dc cX1_mayBeIn 28 1 29 (.aload_n 0) := ⟨by decide +kernel, rfl⟩
theorem d_X1_mayBeIn_29 : Dc cX1_mayBeIn 29 1 30 (.aload_n 3) := ⟨by decide +kernel, rfl⟩
theorem d_X1_mayBeIn_30 : Dc cX1_mayBeIn 30 1 31 (.iload_n 2) := ⟨by decide +kernel, rfl⟩
theorem d_X1_mayBeIn_31 : Dc cX1_mayBeIn 31 3 34 (.invokevirtual 98) := ⟨by decide +kernel, rfl⟩
theorem d_X1_mayBeIn_34 : Dc cX1_mayBeIn 34 1 35 (.aload_n 3) := ⟨by decide +kernel, rfl⟩
theorem d_X1_mayBeIn_35 : Dc cX1_mayBeIn 35 3 38 (.getfield 102) := ⟨by decide +kernel, rfl⟩
theorem d_X1_mayBeIn_38 : Dj cX1_mayBeIn 38 41 45 (.if_icmp .ge) := ⟨7, by decide +kernel, rfl, by decide⟩
theorem d_X1_mayBeIn_41 : Dc cX1_mayBeIn 41 1 42 (.iconst 1) := ⟨by decide +kernel, rfl⟩
theorem d_X1_mayBeIn_42 : Dj cX1_mayBeIn 42 45 46 .goto := ⟨4, by decide +kernel, rfl, by decide⟩
theorem d_X1_mayBeIn_45 : Dc cX1_mayBeIn 45 1 46 (.iconst 0) := ⟨by decide +kernel, rfl⟩
theorem d_X1_mayBeIn_46 : decode cX1_mayBeIn 46 = .ok (.ireturn, 1) := by decide +kernel
set_option maxHeartbeats 4000000 in
set_option maxRecDepth 20000 in
theorem c_X1_mayBeIn {E : Ev} {n : Nat} {M : Mem} {m : Nat} {hm os nb jk bk : Int} {jd jp bd bp bc : Int → Int} {vs : Int → Option Nat} (hH : HoM E M m hm os nb jd jp jk bd bp bk bc vs) {s : Int → Int} {p : Int} (hR : HolR s p hm os nb jd jp jk bd bp bk bc) (hk : OkP s p) (hV : VisR M s p vs) {c t : Int} (hc : 0 ≤ c ∧ c < 6) (ht : 0 ≤ t ∧ t ≤ 999) : MT E yX1_mayBeIn cX1_mayBeIn 4 (some .boolean) 2 0 0 [.ref m, .int (iI c), .int (iI t)] n M (PF (some (.int (iI (bI (mayBe s p c t))))) n (M)) := by
  refine MT.of (by decide) rfl (Nat.le_of_ble_eq_true rfl) ?_
  intro X g
  have g0 := g.1
  show V E X 0 0 n M 0 [some (.ref m), some (.int (iI c)), some (.int (iI t)), none] []
  have h0 := hH.h0
  have h1 := hH.h1
  have h4 := hH.h4
  have h5 := hH.h5
  have h9 := hH.h9
  have hj := hR.jOk hk
  have hb := hR.bOk hk
  have hv := hV c hc.1 hc.2
  have hvb := hk.vis hc.1 hc.2
  have e1 := hR.1.1
  have hhm := hk.home
  have hub := told_b s p c (vOf s p c 0) (vOf s p c 1) t (by omega) (by omega)
  refine V.il1 g0 d_X1_mayBeIn_0 ?_
  refine V.al0 g0 d_X1_mayBeIn_1 ?_
  refine V.getf g0 d_X1_mayBeIn_2 fl_X1_33 (by assumption) (by rfl) ?_
  refine V.icmpne g0 d_X1_mayBeIn_5 (by omega) (fun c_5 => ?_) (fun c_5 => ?_)
  · skip
    have hnh : ¬ s (103 * p + 0) = c := by omega
    refine V.al0 g0 d_X1_mayBeIn_10 ?_
    refine V.il1 g0 d_X1_mayBeIn_11 ?_
    refine V.callVp g0 (c_X1_visaFor hH hc) ky_X1_visaFor ki_X1_visaFor ks2_X1_visaFor lk_X1_90 (by assumption) rfl rfl (Nat.le_of_ble_eq_true rfl) ⟨Nat.zero_le _, Nat.zero_le _⟩ rfl rfl (Nat.le_of_ble_eq_true rfl) d_X1_mayBeIn_12 ?_
    rcases hv with ⟨he, hn⟩ | ⟨a, he, ha, hn⟩
    · skip
      rw [he, show va_rf none = Value.null from rfl]
      refine V.asN3 g0 d_X1_mayBeIn_15 ?_
      refine V.alN3 g0 d_X1_mayBeIn_16 ?_
      refine V.ifnullN g0 d_X1_mayBeIn_17 ?_
      refine V.iconst g0 d_X1_mayBeIn_45 ?_
      refine V.zret g d_X1_mayBeIn_46 (by first | exact Or.inl rfl | exact Or.inr rfl | exact bI_01 _) (Nat.zero_le _) (Nat.zero_le _) ⟨congrArg (fun z => some (Value.int (iI z))) ?_, rfl, rfl⟩
      exact (bI_f (fun q => q.elim hnh (fun q => hn q.1.1))).symm
    · skip
      rw [he, show va_rf (some a) = Value.ref a from rfl]
      have ha2 := ha
      unfold viC at ha2
      refine V.as3 g0 d_X1_mayBeIn_15 ?_
      refine V.al3 g0 d_X1_mayBeIn_16 ?_
      refine V.ifnull g0 d_X1_mayBeIn_17 ?_
      refine V.al3 g0 d_X1_mayBeIn_20 ?_
      refine V.il2 g0 d_X1_mayBeIn_21 ?_
      refine V.callVp g0 (c_X5_isValidOn ha (by constructor <;> omega) (by constructor <;> omega) (by constructor <;> omega)) ky_X5_isValidOn ki_X5_isValidOn ks2_X5_isValidOn lk_X1_94 ha2 rfl rfl (Nat.le_of_ble_eq_true rfl) ⟨Nat.zero_le _, Nat.zero_le _⟩ rfl rfl (Nat.le_of_ble_eq_true rfl) d_X1_mayBeIn_22 ?_
      refine V.ifeqB g0 d_X1_mayBeIn_25 (fun c_25 => ?_) (fun c_25 => ?_)
      · skip
        refine V.iconst g0 d_X1_mayBeIn_45 ?_
        refine V.zret g d_X1_mayBeIn_46 (by first | exact Or.inl rfl | exact Or.inr rfl | exact bI_01 _) (Nat.zero_le _) (Nat.zero_le _) ⟨congrArg (fun z => some (Value.int (iI z))) ?_, rfl, rfl⟩
        exact (bI_f (fun q => q.elim hnh (fun q => c_25 q.1.2))).symm
      · skip
        refine V.al0 g0 d_X1_mayBeIn_28 ?_
        refine V.al3 g0 d_X1_mayBeIn_29 ?_
        refine V.il2 g0 d_X1_mayBeIn_30 ?_
        refine V.callVp g0 (c_X1_usedDays hH hR hk ha (by omega) hvb.1 hvb.2.1 ht) ky_X1_usedDays ki_X1_usedDays ks2_X1_usedDays lk_X1_98 (by assumption) rfl rfl (Nat.le_of_ble_eq_true rfl) ⟨Nat.zero_le _, Nat.zero_le _⟩ rfl rfl (Nat.le_of_ble_eq_true rfl) d_X1_mayBeIn_31 ?_
        refine V.al3 g0 d_X1_mayBeIn_34 ?_
        refine V.getf g0 d_X1_mayBeIn_35 fl_X1_102 ha2 (by rfl) ?_
        refine V.icmpge g0 d_X1_mayBeIn_38 (by omega) (fun c_38 => ?_) (fun c_38 => ?_)
        · skip
          refine V.iconst g0 d_X1_mayBeIn_45 ?_
          refine V.zret g d_X1_mayBeIn_46 (by first | exact Or.inl rfl | exact Or.inr rfl | exact bI_01 _) (Nat.zero_le _) (Nat.zero_le _) ⟨congrArg (fun z => some (Value.int (iI z))) ?_, rfl, rfl⟩
          exact (bI_f (fun q => q.elim hnh (fun q => by have := q.2; unfold usedOn at this; omega))).symm
        · skip
          refine V.iconst g0 d_X1_mayBeIn_41 ?_
          refine V.goto g0 d_X1_mayBeIn_42 ?_
          refine V.zret g d_X1_mayBeIn_46 (by first | exact Or.inl rfl | exact Or.inr rfl | exact bI_01 _) (Nat.zero_le _) (Nat.zero_le _) ⟨congrArg (fun z => some (Value.int (iI z))) ?_, rfl, rfl⟩
          exact (bI_t (Or.inr ⟨⟨hn, c_25⟩, by unfold usedOn; omega⟩)).symm
  · skip
    refine V.iconst g0 d_X1_mayBeIn_8 ?_
    refine V.zret g d_X1_mayBeIn_9 (by first | exact Or.inl rfl | exact Or.inr rfl | exact bI_01 _) (Nat.zero_le _) (Nat.zero_le _) ⟨congrArg (fun z => some (Value.int (iI z))) ?_, rfl, rfl⟩
    exact (bI_t (Or.inl (by omega))).symm

theorem d_X1_visasHeld_0 : Dc cX1_visasHeld 0 1 1 (.iconst 0) := ⟨by decide +kernel, rfl⟩
theorem d_X1_visasHeld_1 : Dc cX1_visasHeld 1 1 2 (.istore_n 1) := ⟨by decide +kernel, rfl⟩
theorem d_X1_visasHeld_2 : Dc cX1_visasHeld 2 1 3 (.iconst 0) := ⟨by decide +kernel, rfl⟩
theorem d_X1_visasHeld_3 : Dc cX1_visasHeld 3 1 4 (.istore_n 2) := ⟨by decide +kernel, rfl⟩
theorem d_X1_visasHeld_4 : Dc cX1_visasHeld 4 1 5 (.iload_n 2) := ⟨by decide +kernel, rfl⟩
theorem d_X1_visasHeld_5 : Dc cX1_visasHeld 5 2 7 (.bipush 6) := ⟨by decide +kernel, rfl⟩
theorem d_X1_visasHeld_7 : Dj cX1_visasHeld 7 10 27 (.if_icmp .ge) := ⟨20, by decide +kernel, rfl, by decide⟩
theorem d_X1_visasHeld_10 : Dc cX1_visasHeld 10 1 11 (.aload_n 0) := ⟨by decide +kernel, rfl⟩
theorem d_X1_visasHeld_11 : Dc cX1_visasHeld 11 1 12 (.iload_n 2) := ⟨by decide +kernel, rfl⟩
theorem d_X1_visasHeld_12 : Dc cX1_visasHeld 12 3 15 (.invokevirtual 90) := ⟨by decide +kernel, rfl⟩
theorem d_X1_visasHeld_15 : Dj cX1_visasHeld 15 18 21 .ifnull := ⟨6, by decide +kernel, rfl, by decide⟩
theorem d_X1_visasHeld_18 : Dc cX1_visasHeld 18 3 21 (.iinc 1 1) := ⟨by decide +kernel, rfl⟩
theorem d_X1_visasHeld_21 : Dc cX1_visasHeld 21 3 24 (.iinc 2 1) := ⟨by decide +kernel, rfl⟩
theorem d_X1_visasHeld_24 : Dj cX1_visasHeld 24 27 4 .goto := ⟨(-20), by decide +kernel, rfl, by decide⟩
theorem d_X1_visasHeld_27 : Dc cX1_visasHeld 27 1 28 (.iload_n 1) := ⟨by decide +kernel, rfl⟩
theorem d_X1_visasHeld_28 : decode cX1_visasHeld 28 = .ok (.ireturn, 1) := by decide +kernel
set_option maxHeartbeats 4000000 in
set_option maxRecDepth 20000 in
theorem c_X1_visasHeld {E : Ev} {n : Nat} {M : Mem} {m : Nat} {hm os nb jk bk : Int} {jd jp bd bp bc : Int → Int} {vs : Int → Option Nat} (hH : HoM E M m hm os nb jd jp jk bd bp bk bc vs) {s : Int → Int} {p : Int} (hR : HolR s p hm os nb jd jp jk bd bp bk bc) (hk : OkP s p) (hV : VisR M s p vs) : MT E yX1_visasHeld cX1_visasHeld 3 (some .int) 1 0 0 [.ref m] n M (PF (some (.int (iI (sumI (fun c => bI (hasV s p c)) 6)))) n (M)) := by
  refine MT.of (by decide) rfl (Nat.le_of_ble_eq_true rfl) ?_
  intro X g
  have g0 := g.1
  show V E X 0 0 n M 0 [some (.ref m), none, none] []
  have h0 := hH.h0
  have h1 := hH.h1
  have h4 := hH.h4
  have h5 := hH.h5
  have h9 := hH.h9
  have hj := hR.jOk hk
  have hb := hR.bOk hk
  refine V.iconst g0 d_X1_visasHeld_0 ?_
  refine V.is1 g0 d_X1_visasHeld_1 ?_
  refine V.iconst g0 d_X1_visasHeld_2 ?_
  refine V.is2 g0 d_X1_visasHeld_3 ?_
  have LP : ∀ (f i : Nat) (z : Int), i + f = 6 → z = sumI (fun c => bI (hasV s p c)) i → V E X 0 0 n (M) 4 [some (.ref m), some (.int (iI z)), some (.int (iI (i : Int)))] [] := by
    intro f
    induction f using Nat.strongRecOn with
    | _ f ih =>
    intro i z hf hz
    refine V.il2 g0 d_X1_visasHeld_4 ?_
    refine V.bipush g0 d_X1_visasHeld_5 (by decide) ?_
    refine V.icmpge g0 d_X1_visasHeld_7 (by omega) (fun c_7 => ?_) (fun c_7 => ?_)
    · skip
      refine V.il1 g0 d_X1_visasHeld_27 ?_
      refine V.iret g d_X1_visasHeld_28 (Nat.zero_le _) (Nat.zero_le _) ⟨congrArg (fun z => some (Value.int (iI z))) ?_, rfl, rfl⟩
      rw [hz, show i = 6 by omega]
    · skip
      have hv := hV i (by omega) (by omega)
      refine V.al0 g0 d_X1_visasHeld_10 ?_
      refine V.il2 g0 d_X1_visasHeld_11 ?_
      refine V.callVp g0 (c_X1_visaFor hH (by omega)) ky_X1_visaFor ki_X1_visaFor ks2_X1_visaFor lk_X1_90 (by assumption) rfl rfl (Nat.le_of_ble_eq_true rfl) ⟨Nat.zero_le _, Nat.zero_le _⟩ rfl rfl (Nat.le_of_ble_eq_true rfl) d_X1_visasHeld_12 ?_
      rcases hv with ⟨he, hn⟩ | ⟨a, he, ha, hn⟩
      · skip
        rw [he, show va_rf none = Value.null from rfl]
        refine V.ifnullN g0 d_X1_visasHeld_15 ?_
        refine V.inc2 g0 d_X1_visasHeld_21 ?_
        refine V.goto g0 d_X1_visasHeld_24 ?_
        exact ih (f - 1) (by omega) (i + 1) _ (by omega) (by rw [hz, sumI_s, bI_f hn, Int.add_zero])
      · skip
        rw [he, show va_rf (some a) = Value.ref a from rfl]
        have ha2 := ha
        unfold viC at ha2
        refine V.ifnull g0 d_X1_visasHeld_15 ?_
        refine V.inc1 g0 d_X1_visasHeld_18 ?_
        refine V.inc2 g0 d_X1_visasHeld_21 ?_
        refine V.goto g0 d_X1_visasHeld_24 ?_
        exact ih (f - 1) (by omega) (i + 1) _ (by omega) (by rw [hz, sumI_s, bI_t hn])
  exact LP 6 0 0 (by omega) rfl

theorem d_X1_visasValidOn_0 : Dc cX1_visasValidOn 0 1 1 (.iconst 0) := ⟨by decide +kernel, rfl⟩
theorem d_X1_visasValidOn_1 : Dc cX1_visasValidOn 1 1 2 (.istore_n 2) := ⟨by decide +kernel, rfl⟩
theorem d_X1_visasValidOn_2 : Dc cX1_visasValidOn 2 1 3 (.iconst 0) := ⟨by decide +kernel, rfl⟩
theorem d_X1_visasValidOn_3 : Dc cX1_visasValidOn 3 1 4 (.istore_n 3) := ⟨by decide +kernel, rfl⟩
theorem d_X1_visasValidOn_4 : Dc cX1_visasValidOn 4 1 5 (.iload_n 3) := ⟨by decide +kernel, rfl⟩
theorem d_X1_visasValidOn_5 : Dc cX1_visasValidOn 5 2 7 (.bipush 6) := ⟨by decide +kernel, rfl⟩
theorem d_X1_visasValidOn_7 : Dj cX1_visasValidOn 7 10 28 (.if_icmp .ge) := ⟨21, by decide +kernel, rfl, by decide⟩
theorem d_X1_visasValidOn_10 : Dc cX1_visasValidOn 10 1 11 (.aload_n 0) := ⟨by decide +kernel, rfl⟩
theorem d_X1_visasValidOn_11 : Dc cX1_visasValidOn 11 1 12 (.iload_n 3) := ⟨by decide +kernel, rfl⟩
theorem d_X1_visasValidOn_12 : Dc cX1_visasValidOn 12 1 13 (.iload_n 1) := ⟨by decide +kernel, rfl⟩
theorem d_X1_visasValidOn_13 : Dc cX1_visasValidOn 13 3 16 (.invokevirtual 105) := ⟨by decide +kernel, rfl⟩
theorem d_X1_visasValidOn_16 : Dj cX1_visasValidOn 16 19 22 (.ifCond .eq) := ⟨6, by decide +kernel, rfl, by decide⟩
theorem d_X1_visasValidOn_19 : Dc cX1_visasValidOn 19 3 22 (.iinc 2 1) := ⟨by decide +kernel, rfl⟩
theorem d_X1_visasValidOn_22 : Dc cX1_visasValidOn 22 3 25 (.iinc 3 1) := ⟨by decide +kernel, rfl⟩
theorem d_X1_visasValidOn_25 : Dj cX1_visasValidOn 25 28 4 .goto := ⟨(-21), by decide +kernel, rfl, by decide⟩
theorem d_X1_visasValidOn_28 : Dc cX1_visasValidOn 28 1 29 (.iload_n 2) := ⟨by decide +kernel, rfl⟩
theorem d_X1_visasValidOn_29 : decode cX1_visasValidOn 29 = .ok (.ireturn, 1) := by decide +kernel
set_option maxHeartbeats 4000000 in
set_option maxRecDepth 20000 in
theorem c_X1_visasValidOn {E : Ev} {n : Nat} {M : Mem} {m : Nat} {hm os nb jk bk : Int} {jd jp bd bp bc : Int → Int} {vs : Int → Option Nat} (hH : HoM E M m hm os nb jd jp jk bd bp bk bc vs) {s : Int → Int} {p : Int} (hR : HolR s p hm os nb jd jp jk bd bp bk bc) (hk : OkP s p) (hV : VisR M s p vs) {t : Int} (ht : rg t) : MT E yX1_visasValidOn cX1_visasValidOn 4 (some .int) 3 0 0 [.ref m, .int (iI t)] n M (PF (some (.int (iI (sumI (fun c => bI (validOn s p c t)) 6)))) n (M)) := by
  refine MT.of (by decide) rfl (Nat.le_of_ble_eq_true rfl) ?_
  intro X g
  have g0 := g.1
  show V E X 0 0 n M 0 [some (.ref m), some (.int (iI t)), none, none] []
  have h0 := hH.h0
  have h1 := hH.h1
  have h4 := hH.h4
  have h5 := hH.h5
  have h9 := hH.h9
  have hj := hR.jOk hk
  have hb := hR.bOk hk
  refine V.iconst g0 d_X1_visasValidOn_0 ?_
  refine V.is2 g0 d_X1_visasValidOn_1 ?_
  refine V.iconst g0 d_X1_visasValidOn_2 ?_
  refine V.is3 g0 d_X1_visasValidOn_3 ?_
  have LP : ∀ (f i : Nat) (z : Int), i + f = 6 → z = sumI (fun c => bI (validOn s p c t)) i → V E X 0 0 n (M) 4 [some (.ref m), some (.int (iI t)), some (.int (iI z)), some (.int (iI (i : Int)))] [] := by
    intro f
    induction f using Nat.strongRecOn with
    | _ f ih =>
    intro i z hf hz
    refine V.il3 g0 d_X1_visasValidOn_4 ?_
    refine V.bipush g0 d_X1_visasValidOn_5 (by decide) ?_
    refine V.icmpge g0 d_X1_visasValidOn_7 (by omega) (fun c_7 => ?_) (fun c_7 => ?_)
    · skip
      refine V.il2 g0 d_X1_visasValidOn_28 ?_
      refine V.iret g d_X1_visasValidOn_29 (Nat.zero_le _) (Nat.zero_le _) ⟨congrArg (fun z => some (Value.int (iI z))) ?_, rfl, rfl⟩
      rw [hz, show i = 6 by omega]
    · skip
      refine V.al0 g0 d_X1_visasValidOn_10 ?_
      refine V.il3 g0 d_X1_visasValidOn_11 ?_
      refine V.il1 g0 d_X1_visasValidOn_12 ?_
      refine V.callVp g0 (c_X1_hasValidVisa hH hR hk hV (by omega) ht) ky_X1_hasValidVisa ki_X1_hasValidVisa ks2_X1_hasValidVisa lk_X1_105 (by assumption) rfl rfl (Nat.le_of_ble_eq_true rfl) ⟨Nat.zero_le _, Nat.zero_le _⟩ rfl rfl (Nat.le_of_ble_eq_true rfl) d_X1_visasValidOn_13 ?_
      refine V.ifeqB g0 d_X1_visasValidOn_16 (fun c_16 => ?_) (fun c_16 => ?_)
      · skip
        refine V.inc3 g0 d_X1_visasValidOn_22 ?_
        refine V.goto g0 d_X1_visasValidOn_25 ?_
        exact ih (f - 1) (by omega) (i + 1) _ (by omega) (by rw [hz, sumI_s, bI_f c_16, Int.add_zero])
      · skip
        refine V.inc2 g0 d_X1_visasValidOn_19 ?_
        refine V.inc3 g0 d_X1_visasValidOn_22 ?_
        refine V.goto g0 d_X1_visasValidOn_25 ?_
        exact ih (f - 1) (by omega) (i + 1) _ (by omega) (by rw [hz, sumI_s, bI_t c_16])
  exact LP 6 0 0 (by omega) rfl

theorem d_X1_beginBook_0 : Dc cX1_beginBook 0 1 1 (.aload_n 0) := ⟨by decide +kernel, rfl⟩
theorem d_X1_beginBook_1 : Dc cX1_beginBook 1 3 4 (.getfield 23) := ⟨by decide +kernel, rfl⟩
theorem d_X1_beginBook_4 : Dc cX1_beginBook 4 1 5 (.aload_n 0) := ⟨by decide +kernel, rfl⟩
theorem d_X1_beginBook_5 : Dc cX1_beginBook 5 3 8 (.invokevirtual 57) := ⟨by decide +kernel, rfl⟩
theorem d_X1_beginBook_8 : Dc cX1_beginBook 8 1 9 (.iload_n 1) := ⟨by decide +kernel, rfl⟩
theorem d_X1_beginBook_9 : Dc cX1_beginBook 9 3 12 (.invokevirtual 61) := ⟨by decide +kernel, rfl⟩
theorem d_X1_beginBook_12 : Dc cX1_beginBook 12 1 13 (.aload_n 0) := ⟨by decide +kernel, rfl⟩
theorem d_X1_beginBook_13 : Dc cX1_beginBook 13 1 14 .dup := ⟨by decide +kernel, rfl⟩
theorem d_X1_beginBook_14 : Dc cX1_beginBook 14 3 17 (.getfield 40) := ⟨by decide +kernel, rfl⟩
theorem d_X1_beginBook_17 : Dc cX1_beginBook 17 1 18 (.iconst 1) := ⟨by decide +kernel, rfl⟩
theorem d_X1_beginBook_18 : Dc cX1_beginBook 18 1 19 .iadd := ⟨by decide +kernel, rfl⟩
theorem d_X1_beginBook_19 : Dc cX1_beginBook 19 3 22 (.putfield 40) := ⟨by decide +kernel, rfl⟩
theorem d_X1_beginBook_22 : decode cX1_beginBook 22 = .ok (.return_, 1) := by decide +kernel
set_option maxHeartbeats 4000000 in
set_option maxRecDepth 20000 in
theorem c_X1_beginBook {E : Ev} {n : Nat} {M : Mem} {m : Nat} {hm os nb jk bk : Int} {jd jp bd bp bc : Int → Int} {vs : Int → Option Nat} (hH : HoM E M m hm os nb jd jp jk bd bp bk bc vs) {d : Int} (hj : 0 ≤ jk ∧ jk < 61) : MT E yX1_beginBook cX1_beginBook 2 none 2 0 0 [.ref m, .int (iI d)] n M ((PF none n (hoU E M m (hm) (os) (nb + 1) (jd) (jp) (jk) (upI bd 0 d) (upI bp 0 (jp jk)) (0) (bc) (vs)))) := by
  refine MT.of (by decide) rfl (Nat.le_of_ble_eq_true rfl) ?_
  intro X g
  have g0 := g.1
  show V E X 0 0 n M 0 [some (.ref m), some (.int (iI d))] []
  refine V.eqM (ho_id hH).symm ?_
  refine V.al0 g0 d_X1_beginBook_0 ?_
  refine V.getf g0 d_X1_beginBook_1 fl_X1_23 (by first | exact ho_M.h0 | exact ho_M.h1 | exact ho_M.h4 | exact ho_M.h5 | exact ho_M.h9 | assumption) (by rfl) ?_
  refine V.al0 g0 d_X1_beginBook_4 ?_
  refine V.callVp g0 (c_X1_place ho_M hj) ky_X1_place ki_X1_place ks2_X1_place lk_X1_57 (by first | exact ho_M.h0 | exact ho_M.h1 | exact ho_M.h4 | exact ho_M.h5 | exact ho_M.h9 | assumption) rfl rfl (Nat.le_of_ble_eq_true rfl) ⟨Nat.zero_le _, Nat.zero_le _⟩ rfl rfl (Nat.le_of_ble_eq_true rfl) d_X1_beginBook_5 ?_
  refine V.il1 g0 d_X1_beginBook_8 ?_
  refine V.callVf g0 (c_X0_begin ho_M.bo) ky_X0_begin ki_X0_begin ks2_X0_begin lk_X1_61 (by first | exact ho_M.h0 | exact ho_M.h1 | exact ho_M.h4 | exact ho_M.h5 | exact ho_M.h9 | assumption) rfl rfl (Nat.le_of_ble_eq_true rfl) ⟨Nat.zero_le _, Nat.zero_le _⟩ rfl rfl (Nat.le_of_ble_eq_true rfl) d_X1_beginBook_9 ?_
  refine V.eqM ho_ub ?_
  refine V.al0 g0 d_X1_beginBook_12 ?_
  refine V.dup g0 d_X1_beginBook_13 rfl ?_
  refine V.getf g0 d_X1_beginBook_14 fl_X1_40 (by first | exact ho_M.h0 | exact ho_M.h1 | exact ho_M.h4 | exact ho_M.h5 | exact ho_M.h9 | assumption) (by rfl) ?_
  refine V.iconst g0 d_X1_beginBook_17 ?_
  refine V.iadd g0 d_X1_beginBook_18 ?_
  refine V.putf g0 d_X1_beginBook_19 fp_X1_40 (by first | exact ho_M.h0 | exact ho_M.h1 | exact ho_M.h4 | exact ho_M.h5 | exact ho_M.h9 | assumption) (Nat.le_of_ble_eq_true rfl) rfl rfl ?_
  first | refine V.eqM ho_u0 ?_
  refine V.vret g d_X1_beginBook_22 (Nat.zero_le _) (Nat.zero_le _) ?_
  exact ⟨rfl, rfl, rfl⟩

theorem d_X1_begin_0 : Dc cX1_begin 0 1 1 (.aload_n 0) := ⟨by decide +kernel, rfl⟩
theorem d_X1_begin_1 : Dc cX1_begin 1 1 2 (.iload_n 1) := ⟨by decide +kernel, rfl⟩
theorem d_X1_begin_2 : Dc cX1_begin 2 3 5 (.putfield 33) := ⟨by decide +kernel, rfl⟩
theorem d_X1_begin_5 : Dc cX1_begin 5 1 6 (.aload_n 0) := ⟨by decide +kernel, rfl⟩
theorem d_X1_begin_6 : Dc cX1_begin 6 1 7 (.iconst 0) := ⟨by decide +kernel, rfl⟩
theorem d_X1_begin_7 : Dc cX1_begin 7 3 10 (.putfield 37) := ⟨by decide +kernel, rfl⟩
theorem d_X1_begin_10 : Dc cX1_begin 10 1 11 (.aload_n 0) := ⟨by decide +kernel, rfl⟩
theorem d_X1_begin_11 : Dc cX1_begin 11 1 12 (.iconst 0) := ⟨by decide +kernel, rfl⟩
theorem d_X1_begin_12 : Dc cX1_begin 12 3 15 (.putfield 40) := ⟨by decide +kernel, rfl⟩
theorem d_X1_begin_15 : Dc cX1_begin 15 1 16 (.aload_n 0) := ⟨by decide +kernel, rfl⟩
theorem d_X1_begin_16 : Dc cX1_begin 16 3 19 (.getfield 14) := ⟨by decide +kernel, rfl⟩
theorem d_X1_begin_19 : Dc cX1_begin 19 1 20 (.iload_n 1) := ⟨by decide +kernel, rfl⟩
theorem d_X1_begin_20 : Dc cX1_begin 20 1 21 (.iload_n 2) := ⟨by decide +kernel, rfl⟩
theorem d_X1_begin_21 : Dc cX1_begin 21 3 24 (.invokevirtual 50) := ⟨by decide +kernel, rfl⟩
theorem d_X1_begin_24 : Dc cX1_begin 24 1 25 (.iconst 0) := ⟨by decide +kernel, rfl⟩
theorem d_X1_begin_25 : Dc cX1_begin 25 1 26 (.istore_n 3) := ⟨by decide +kernel, rfl⟩
theorem d_X1_begin_26 : Dc cX1_begin 26 1 27 (.iload_n 3) := ⟨by decide +kernel, rfl⟩
theorem d_X1_begin_27 : Dc cX1_begin 27 2 29 (.bipush 6) := ⟨by decide +kernel, rfl⟩
theorem d_X1_begin_29 : Dj cX1_begin 29 32 45 (.if_icmp .ge) := ⟨16, by decide +kernel, rfl, by decide⟩
theorem d_X1_begin_32 : Dc cX1_begin 32 1 33 (.aload_n 0) := ⟨by decide +kernel, rfl⟩
theorem d_X1_begin_33 : Dc cX1_begin 33 3 36 (.getfield 29) := ⟨by decide +kernel, rfl⟩
theorem d_X1_begin_36 : Dc cX1_begin 36 1 37 (.iload_n 3) := ⟨by decide +kernel, rfl⟩
theorem d_X1_begin_37 : Dc cX1_begin 37 1 38 .aconst_null := ⟨by decide +kernel, rfl⟩
theorem d_X1_begin_38 : Dc cX1_begin 38 1 39 .aastore := ⟨by decide +kernel, rfl⟩
theorem d_X1_begin_39 : Dc cX1_begin 39 3 42 (.iinc 3 1) := ⟨by decide +kernel, rfl⟩
theorem d_X1_begin_42 : Dj cX1_begin 42 45 26 .goto := ⟨(-16), by decide +kernel, rfl, by decide⟩
theorem d_X1_begin_45 : Dc cX1_begin 45 1 46 (.aload_n 0) := ⟨by decide +kernel, rfl⟩
theorem d_X1_begin_46 : Dc cX1_begin 46 1 47 (.iload_n 2) := ⟨by decide +kernel, rfl⟩
theorem d_X1_begin_47 : Dc cX1_begin 47 3 50 (.invokevirtual 54) := ⟨by decide +kernel, rfl⟩
theorem d_X1_begin_50 : decode cX1_begin 50 = .ok (.return_, 1) := by decide +kernel
set_option maxHeartbeats 4000000 in
set_option maxRecDepth 20000 in
theorem c_X1_begin {E : Ev} {n : Nat} {M : Mem} {m : Nat} {hm os nb jk bk : Int} {jd jp bd bp bc : Int → Int} {vs : Int → Option Nat} (hH : HoM E M m hm os nb jd jp jk bd bp bk bc vs) {c d : Int} : MT E yX1_begin cX1_begin 4 none 3 0 0 [.ref m, .int (iI c), .int (iI d)] n M ((PF none n (hoU E M m (c) (0) (0 + 1) (upI jd 0 d) (upI jp 0 c) (0) (upI bd 0 d) (upI bp 0 c) (0) (bc) (nulP vs 6)))) := by
  refine MT.of (by decide) rfl (Nat.le_of_ble_eq_true rfl) ?_
  intro X g
  have g0 := g.1
  show V E X 0 0 n M 0 [some (.ref m), some (.int (iI c)), some (.int (iI d)), none] []
  refine V.eqM (ho_id hH).symm ?_
  refine V.al0 g0 d_X1_begin_0 ?_
  refine V.il1 g0 d_X1_begin_1 ?_
  refine V.putf g0 d_X1_begin_2 fp_X1_33 (by first | exact ho_M.h0 | exact ho_M.h1 | exact ho_M.h4 | exact ho_M.h5 | exact ho_M.h9 | assumption) (Nat.le_of_ble_eq_true rfl) rfl rfl ?_
  first | refine V.eqM ho_u0 ?_
  refine V.al0 g0 d_X1_begin_5 ?_
  refine V.iconst g0 d_X1_begin_6 ?_
  refine V.putf g0 d_X1_begin_7 fp_X1_37 (by first | exact ho_M.h0 | exact ho_M.h1 | exact ho_M.h4 | exact ho_M.h5 | exact ho_M.h9 | assumption) (Nat.le_of_ble_eq_true rfl) rfl rfl ?_
  first | refine V.eqM ho_u0 ?_
  refine V.al0 g0 d_X1_begin_10 ?_
  refine V.iconst g0 d_X1_begin_11 ?_
  refine V.putf g0 d_X1_begin_12 fp_X1_40 (by first | exact ho_M.h0 | exact ho_M.h1 | exact ho_M.h4 | exact ho_M.h5 | exact ho_M.h9 | assumption) (Nat.le_of_ble_eq_true rfl) rfl rfl ?_
  first | refine V.eqM ho_u0 ?_
  refine V.al0 g0 d_X1_begin_15 ?_
  refine V.getf g0 d_X1_begin_16 fl_X1_14 (by first | exact ho_M.h0 | exact ho_M.h1 | exact ho_M.h4 | exact ho_M.h5 | exact ho_M.h9 | assumption) (by rfl) ?_
  refine V.il1 g0 d_X1_begin_19 ?_
  refine V.il2 g0 d_X1_begin_20 ?_
  refine V.callVf g0 (c_X4_begin ho_M.tr (by decide)) ky_X4_begin ki_X4_begin ks2_X4_begin lk_X1_50 (by first | exact ho_M.h0 | exact ho_M.h1 | exact ho_M.h4 | exact ho_M.h5 | exact ho_M.h9 | assumption) rfl rfl (Nat.le_of_ble_eq_true rfl) ⟨Nat.zero_le _, Nat.zero_le _⟩ rfl rfl (Nat.le_of_ble_eq_true rfl) d_X1_begin_21 ?_
  refine V.eqM ho_uj ?_
  refine V.iconst g0 d_X1_begin_24 ?_
  refine V.is3 g0 d_X1_begin_25 ?_
  have LP : ∀ (f i : Nat), i + f = 6 → V E X 0 0 n (hoU E M m (c) (0) (0) (upI jd 0 d) (upI jp 0 c) (0) (bd) (bp) (bk) (bc) (nulP vs i)) 26 [some (.ref m), some (.int (iI c)), some (.int (iI d)), some (.int (iI (i : Int)))] [] := by
    intro f
    induction f using Nat.strongRecOn with
    | _ f ih =>
    intro i hf
    refine V.il3 g0 d_X1_begin_26 ?_
    refine V.bipush g0 d_X1_begin_27 (by decide) ?_
    refine V.icmpge g0 d_X1_begin_29 (by omega) (fun c_29 => ?_) (fun c_29 => ?_)
    · skip
      refine V.al0 g0 d_X1_begin_45 ?_
      refine V.il2 g0 d_X1_begin_46 ?_
      refine V.callVf g0 (c_X1_beginBook ho_M (by decide)) ky_X1_beginBook ki_X1_beginBook ks2_X1_beginBook lk_X1_54 (by first | exact ho_M.h0 | exact ho_M.h1 | exact ho_M.h4 | exact ho_M.h5 | exact ho_M.h9 | assumption) rfl rfl (Nat.le_of_ble_eq_true rfl) ⟨Nat.zero_le _, Nat.zero_le _⟩ rfl rfl (Nat.le_of_ble_eq_true rfl) d_X1_begin_47 ?_
      refine V.eqM ho_ho ?_
      rw [upI_s, show i = 6 by omega]
      refine V.vret g d_X1_begin_50 (Nat.zero_le _) (Nat.zero_le _) ?_
      exact ⟨rfl, rfl, rfl⟩
    · skip
      refine V.al0 g0 d_X1_begin_32 ?_
      refine V.getf g0 d_X1_begin_33 fl_X1_29 (by first | exact ho_M.h0 | exact ho_M.h1 | exact ho_M.h4 | exact ho_M.h5 | exact ho_M.h9 | assumption) (by rfl) ?_
      refine V.il3 g0 d_X1_begin_36 ?_
      refine V.anull g0 d_X1_begin_37 ?_
      refine V.aastN g0 d_X1_begin_38 (by first | exact ho_M.h0 | exact ho_M.h1 | exact ho_M.h4 | exact ho_M.h5 | exact ho_M.h9 | assumption) rfl (by omega) (by decide) ?_
      refine V.eqM ho_u9 ?_
      rw [nulP_s]
      refine V.inc3 g0 d_X1_begin_39 ?_
      refine V.goto g0 d_X1_begin_42 ?_
      exact ih (f - 1) (by omega) (i + 1) (by omega)
  exact V.eqM (by rw [nulP_0]) (LP 6 0 (by omega))

theorem d_X1_copyFrom_0 : Dc cX1_copyFrom 0 1 1 (.aload_n 0) := ⟨by decide +kernel, rfl⟩
theorem d_X1_copyFrom_1 : Dc cX1_copyFrom 1 1 2 (.aload_n 1) := ⟨by decide +kernel, rfl⟩
theorem d_X1_copyFrom_2 : Dc cX1_copyFrom 2 3 5 (.getfield 33) := ⟨by decide +kernel, rfl⟩
theorem d_X1_copyFrom_5 : Dc cX1_copyFrom 5 3 8 (.putfield 33) := ⟨by decide +kernel, rfl⟩
theorem d_X1_copyFrom_8 : Dc cX1_copyFrom 8 1 9 (.aload_n 0) := ⟨by decide +kernel, rfl⟩
theorem d_X1_copyFrom_9 : Dc cX1_copyFrom 9 1 10 (.aload_n 1) := ⟨by decide +kernel, rfl⟩
theorem d_X1_copyFrom_10 : Dc cX1_copyFrom 10 3 13 (.getfield 37) := ⟨by decide +kernel, rfl⟩
theorem d_X1_copyFrom_13 : Dc cX1_copyFrom 13 3 16 (.putfield 37) := ⟨by decide +kernel, rfl⟩
theorem d_X1_copyFrom_16 : Dc cX1_copyFrom 16 1 17 (.aload_n 0) := ⟨by decide +kernel, rfl⟩
theorem d_X1_copyFrom_17 : Dc cX1_copyFrom 17 1 18 (.aload_n 1) := ⟨by decide +kernel, rfl⟩
theorem d_X1_copyFrom_18 : Dc cX1_copyFrom 18 3 21 (.getfield 40) := ⟨by decide +kernel, rfl⟩
theorem d_X1_copyFrom_21 : Dc cX1_copyFrom 21 3 24 (.putfield 40) := ⟨by decide +kernel, rfl⟩
theorem d_X1_copyFrom_24 : Dc cX1_copyFrom 24 1 25 (.aload_n 0) := ⟨by decide +kernel, rfl⟩
theorem d_X1_copyFrom_25 : Dc cX1_copyFrom 25 3 28 (.getfield 14) := ⟨by decide +kernel, rfl⟩
theorem d_X1_copyFrom_28 : Dc cX1_copyFrom 28 1 29 (.aload_n 1) := ⟨by decide +kernel, rfl⟩
theorem d_X1_copyFrom_29 : Dc cX1_copyFrom 29 3 32 (.getfield 14) := ⟨by decide +kernel, rfl⟩
theorem d_X1_copyFrom_32 : Dc cX1_copyFrom 32 3 35 (.invokevirtual 43) := ⟨by decide +kernel, rfl⟩
theorem d_X1_copyFrom_35 : Dc cX1_copyFrom 35 1 36 (.aload_n 0) := ⟨by decide +kernel, rfl⟩
theorem d_X1_copyFrom_36 : Dc cX1_copyFrom 36 3 39 (.getfield 23) := ⟨by decide +kernel, rfl⟩
theorem d_X1_copyFrom_39 : Dc cX1_copyFrom 39 1 40 (.aload_n 1) := ⟨by decide +kernel, rfl⟩
theorem d_X1_copyFrom_40 : Dc cX1_copyFrom 40 3 43 (.getfield 23) := ⟨by decide +kernel, rfl⟩
theorem d_X1_copyFrom_43 : Dc cX1_copyFrom 43 3 46 (.invokevirtual 47) := ⟨by decide +kernel, rfl⟩
theorem d_X1_copyFrom_46 : Dc cX1_copyFrom 46 1 47 (.iconst 0) := ⟨by decide +kernel, rfl⟩
theorem d_X1_copyFrom_47 : Dc cX1_copyFrom 47 1 48 (.istore_n 2) := ⟨by decide +kernel, rfl⟩
theorem d_X1_copyFrom_48 : Dc cX1_copyFrom 48 1 49 (.iload_n 2) := ⟨by decide +kernel, rfl⟩
theorem d_X1_copyFrom_49 : Dc cX1_copyFrom 49 2 51 (.bipush 6) := ⟨by decide +kernel, rfl⟩
theorem d_X1_copyFrom_51 : Dj cX1_copyFrom 51 54 72 (.if_icmp .ge) := ⟨21, by decide +kernel, rfl, by decide⟩
theorem d_X1_copyFrom_54 : Dc cX1_copyFrom 54 1 55 (.aload_n 0) := ⟨by decide +kernel, rfl⟩
theorem d_X1_copyFrom_55 : Dc cX1_copyFrom 55 3 58 (.getfield 29) := ⟨by decide +kernel, rfl⟩
theorem d_X1_copyFrom_58 : Dc cX1_copyFrom 58 1 59 (.iload_n 2) := ⟨by decide +kernel, rfl⟩
theorem d_X1_copyFrom_59 : Dc cX1_copyFrom 59 1 60 (.aload_n 1) := ⟨by decide +kernel, rfl⟩
theorem d_X1_copyFrom_60 : Dc cX1_copyFrom 60 3 63 (.getfield 29) := ⟨by decide +kernel, rfl⟩
theorem d_X1_copyFrom_63 : Dc cX1_copyFrom 63 1 64 (.iload_n 2) := ⟨by decide +kernel, rfl⟩
theorem d_X1_copyFrom_64 : Dc cX1_copyFrom 64 1 65 .aaload := ⟨by decide +kernel, rfl⟩
theorem d_X1_copyFrom_65 : Dc cX1_copyFrom 65 1 66 .aastore := ⟨by decide +kernel, rfl⟩
theorem d_X1_copyFrom_66 : Dc cX1_copyFrom 66 3 69 (.iinc 2 1) := ⟨by decide +kernel, rfl⟩
theorem d_X1_copyFrom_69 : Dj cX1_copyFrom 69 72 48 .goto := ⟨(-21), by decide +kernel, rfl, by decide⟩
theorem d_X1_copyFrom_72 : decode cX1_copyFrom 72 = .ok (.return_, 1) := by decide +kernel
set_option maxHeartbeats 4000000 in
set_option maxRecDepth 20000 in
theorem c_X1_copyFrom {E : Ev} {n : Nat} {M : Mem} {m b : Nat} {hm os nb jk bk hm2 os2 nb2 jk2 bk2 : Int} {jd jp bd bp bc jd2 jp2 bd2 bp2 bc2 : Int → Int} {vs vs2 : Int → Option Nat} (hH : HoM E M m hm os nb jd jp jk bd bp bk bc vs) (hC : HoM E M b hm2 os2 nb2 jd2 jp2 jk2 bd2 bp2 bk2 bc2 vs2) (hj2 : 0 ≤ jk2 ∧ jk2 < 61) (hb2 : 0 ≤ bk2 ∧ bk2 < 17) (hd : b + 10 ≤ m ∨ m + 10 ≤ b) (hW : ∀ i, 0 ≤ i → i < 6 → vs2 i = none ∨ ∃ u x y z w, vs2 i = some u ∧ M u = viC x y z w ∧ (u < m ∨ m + 10 ≤ u)) : MT E yX1_copyFrom cX1_copyFrom 3 none 4 0 0 [.ref m, .ref b] n M ((PF none n (hoU E M m (hm2) (os2) (nb2) (cp0 jd2 jd (jk2 + 1)) (cp0 jp2 jp (jk2 + 1)) (jk2) (cp0 bd2 bd (bk2 + 1)) (cp0 bp2 bp (bk2 + 1)) (bk2) (cp0 bc2 bc 16) (mixR 6 vs2 vs)))) := by
  refine MT.of (by decide) rfl (Nat.le_of_ble_eq_true rfl) ?_
  intro X g
  have g0 := g.1
  show V E X 0 0 n M 0 [some (.ref m), some (.ref b), none] []
  have fr : ∀ {hm os nb jk bk : Int} {jd jp bd bp bc : Int → Int} {vs : Int → Option Nat}, HoM E (hoU E M m hm os nb jd jp jk bd bp bk bc vs) b hm2 os2 nb2 jd2 jp2 jk2 bd2 bp2 bk2 bc2 vs2 := fun {_ _ _ _ _ _ _ _ _ _ _} => Bk.fr hC (fun q h1 h2 => ov_n (by omega))
  refine V.eqM (ho_id hH).symm ?_
  refine V.al0 g0 d_X1_copyFrom_0 ?_
  refine V.al1 g0 d_X1_copyFrom_1 ?_
  refine V.getf g0 d_X1_copyFrom_2 fl_X1_33 fr.h0 (by rfl) ?_
  refine V.putf g0 d_X1_copyFrom_5 fp_X1_33 (by first | exact ho_M.h0 | exact ho_M.h9 | exact fr.h0 | exact fr.h9 | exact ho_M.h1 | exact ho_M.h4 | exact hu2) (Nat.le_of_ble_eq_true rfl) rfl rfl ?_
  first | refine V.eqM ho_u0 ?_
  refine V.al0 g0 d_X1_copyFrom_8 ?_
  refine V.al1 g0 d_X1_copyFrom_9 ?_
  refine V.getf g0 d_X1_copyFrom_10 fl_X1_37 fr.h0 (by rfl) ?_
  refine V.putf g0 d_X1_copyFrom_13 fp_X1_37 (by first | exact ho_M.h0 | exact ho_M.h9 | exact fr.h0 | exact fr.h9 | exact ho_M.h1 | exact ho_M.h4 | exact hu2) (Nat.le_of_ble_eq_true rfl) rfl rfl ?_
  first | refine V.eqM ho_u0 ?_
  refine V.al0 g0 d_X1_copyFrom_16 ?_
  refine V.al1 g0 d_X1_copyFrom_17 ?_
  refine V.getf g0 d_X1_copyFrom_18 fl_X1_40 fr.h0 (by rfl) ?_
  refine V.putf g0 d_X1_copyFrom_21 fp_X1_40 (by first | exact ho_M.h0 | exact ho_M.h9 | exact fr.h0 | exact fr.h9 | exact ho_M.h1 | exact ho_M.h4 | exact hu2) (Nat.le_of_ble_eq_true rfl) rfl rfl ?_
  first | refine V.eqM ho_u0 ?_
  refine V.al0 g0 d_X1_copyFrom_24 ?_
  refine V.getf g0 d_X1_copyFrom_25 fl_X1_14 ho_M.h0 (by rfl) ?_
  refine V.al1 g0 d_X1_copyFrom_28 ?_
  refine V.getf g0 d_X1_copyFrom_29 fl_X1_14 fr.h0 (by rfl) ?_
  refine V.callVf g0 (c_X4_copyFrom ho_M.tr fr.tr hj2 (by decide) (by omega)) ky_X4_copyFrom ki_X4_copyFrom ks2_X4_copyFrom lk_X1_43 ho_M.h1 rfl rfl (Nat.le_of_ble_eq_true rfl) ⟨Nat.zero_le _, Nat.zero_le _⟩ rfl rfl (Nat.le_of_ble_eq_true rfl) d_X1_copyFrom_32 ?_
  refine V.eqM ho_uj ?_
  refine V.al0 g0 d_X1_copyFrom_35 ?_
  refine V.getf g0 d_X1_copyFrom_36 fl_X1_23 ho_M.h0 (by rfl) ?_
  refine V.al1 g0 d_X1_copyFrom_39 ?_
  refine V.getf g0 d_X1_copyFrom_40 fl_X1_23 fr.h0 (by rfl) ?_
  refine V.callVf g0 (c_X0_copyFrom ho_M.bo fr.bo hb2 (by omega)) ky_X0_copyFrom ki_X0_copyFrom ks2_X0_copyFrom lk_X1_47 ho_M.h4 rfl rfl (Nat.le_of_ble_eq_true rfl) ⟨Nat.zero_le _, Nat.zero_le _⟩ rfl rfl (Nat.le_of_ble_eq_true rfl) d_X1_copyFrom_43 ?_
  refine V.eqM ho_ub ?_
  refine V.iconst g0 d_X1_copyFrom_46 ?_
  refine V.is2 g0 d_X1_copyFrom_47 ?_
  have LP : ∀ (f i : Nat), i + f = 6 → V E X 0 0 n (hoU E M m (hm2) (os2) (nb2) (cp0 jd2 jd (jk2 + 1)) (cp0 jp2 jp (jk2 + 1)) (jk2) (cp0 bd2 bd (bk2 + 1)) (cp0 bp2 bp (bk2 + 1)) (bk2) (cp0 bc2 bc 16) (mixR i vs2 vs)) 48 [some (.ref m), some (.ref b), some (.int (iI (i : Int)))] [] := by
    intro f
    induction f using Nat.strongRecOn with
    | _ f ih =>
    intro i hf
    refine V.il2 g0 d_X1_copyFrom_48 ?_
    refine V.bipush g0 d_X1_copyFrom_49 (by decide) ?_
    refine V.icmpge g0 d_X1_copyFrom_51 (by omega) (fun c_51 => ?_) (fun c_51 => ?_)
    · skip
      rw [show i = 6 by omega]
      refine V.vret g d_X1_copyFrom_72 (Nat.zero_le _) (Nat.zero_le _) ?_
      exact ⟨rfl, rfl, rfl⟩
    · skip
      refine V.al0 g0 d_X1_copyFrom_54 ?_
      refine V.getf g0 d_X1_copyFrom_55 fl_X1_29 ho_M.h0 (by rfl) ?_
      refine V.il2 g0 d_X1_copyFrom_58 ?_
      refine V.al1 g0 d_X1_copyFrom_59 ?_
      refine V.getf g0 d_X1_copyFrom_60 fl_X1_29 fr.h0 (by rfl) ?_
      refine V.il2 g0 d_X1_copyFrom_63 ?_
      refine V.aald g0 d_X1_copyFrom_64 fr.h9 rfl (by omega) (by decide) ?_
      rcases hW i (by omega) (by omega) with he | ⟨u, x, y, z, w, he, hu, hud⟩
      · skip
        rw [he, show va_rf none = Value.null from rfl]
        refine V.aastN g0 d_X1_copyFrom_65 ho_M.h9 rfl (by omega) (by decide) ?_
        refine V.eqM ho_u9 ?_
        rw [← he, mixR_s]
        refine V.inc2 g0 d_X1_copyFrom_66 ?_
        refine V.goto g0 d_X1_copyFrom_69 ?_
        exact ih (f - 1) (by omega) (i + 1) (by omega)
      · skip
        rw [he, show va_rf (some u) = Value.ref u from rfl]
        have hu2 : hoU E M m (hm2) (os2) (nb2) (cp0 jd2 jd (jk2 + 1)) (cp0 jp2 jp (jk2 + 1)) (jk2) (cp0 bd2 bd (bk2 + 1)) (cp0 bp2 bp (bk2 + 1)) (bk2) (cp0 bc2 bc 16) (mixR i vs2 vs) u = viC x y z w := (ov_n hud).trans hu
        refine V.aast g0 d_X1_copyFrom_65 ho_M.h9 rfl hu2 rfl (by omega) (by decide) ?_
        refine V.eqM ho_u9 ?_
        rw [← he, mixR_s]
        refine V.inc2 g0 d_X1_copyFrom_66 ?_
        refine V.goto g0 d_X1_copyFrom_69 ?_
        exact ih (f - 1) (by omega) (i + 1) (by omega)
  exact V.eqM (by rw [mixR_0]) (LP 6 0 (by omega))
