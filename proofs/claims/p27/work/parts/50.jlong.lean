theorem lush (x : Int64) (y : Int32) (k : UInt64) (h : y.toInt64.toUInt64 &&& Int64.toUInt64 63 = k) : (x.toUInt64 >>> (y.toInt64.toUInt64 &&& Int64.toUInt64 63)).toInt64 = (x.toUInt64 >>> k).toInt64 := by rw [h]
theorem d_J13_bitCount_95d88_0 : decode cJ13_bitCount_95d88 0 = .ok (.lload_n 0, 1) := by decide +kernel
theorem d_J13_bitCount_95d88_1 : decode cJ13_bitCount_95d88 1 = .ok (.lload_n 0, 1) := by decide +kernel
theorem d_J13_bitCount_95d88_2 : decode cJ13_bitCount_95d88 2 = .ok (.iconst 1, 1) := by decide +kernel
theorem d_J13_bitCount_95d88_3 : decode cJ13_bitCount_95d88 3 = .ok (.lushr, 1) := by decide +kernel
theorem d_J13_bitCount_95d88_4 : decode cJ13_bitCount_95d88 4 = .ok (.ldc2_w 314, 3) := by decide +kernel
theorem d_J13_bitCount_95d88_7 : decode cJ13_bitCount_95d88 7 = .ok (.land, 1) := by decide +kernel
theorem d_J13_bitCount_95d88_8 : decode cJ13_bitCount_95d88 8 = .ok (.lsub, 1) := by decide +kernel
theorem d_J13_bitCount_95d88_9 : decode cJ13_bitCount_95d88 9 = .ok (.lstore_n 0, 1) := by decide +kernel
theorem d_J13_bitCount_95d88_10 : decode cJ13_bitCount_95d88 10 = .ok (.lload_n 0, 1) := by decide +kernel
theorem d_J13_bitCount_95d88_11 : decode cJ13_bitCount_95d88 11 = .ok (.ldc2_w 316, 3) := by decide +kernel
theorem d_J13_bitCount_95d88_14 : decode cJ13_bitCount_95d88 14 = .ok (.land, 1) := by decide +kernel
theorem d_J13_bitCount_95d88_15 : decode cJ13_bitCount_95d88 15 = .ok (.lload_n 0, 1) := by decide +kernel
theorem d_J13_bitCount_95d88_16 : decode cJ13_bitCount_95d88 16 = .ok (.iconst 2, 1) := by decide +kernel
theorem d_J13_bitCount_95d88_17 : decode cJ13_bitCount_95d88 17 = .ok (.lushr, 1) := by decide +kernel
theorem d_J13_bitCount_95d88_18 : decode cJ13_bitCount_95d88 18 = .ok (.ldc2_w 316, 3) := by decide +kernel
theorem d_J13_bitCount_95d88_21 : decode cJ13_bitCount_95d88 21 = .ok (.land, 1) := by decide +kernel
theorem d_J13_bitCount_95d88_22 : decode cJ13_bitCount_95d88 22 = .ok (.ladd, 1) := by decide +kernel
theorem d_J13_bitCount_95d88_23 : decode cJ13_bitCount_95d88 23 = .ok (.lstore_n 0, 1) := by decide +kernel
theorem d_J13_bitCount_95d88_24 : decode cJ13_bitCount_95d88 24 = .ok (.lload_n 0, 1) := by decide +kernel
theorem d_J13_bitCount_95d88_25 : decode cJ13_bitCount_95d88 25 = .ok (.lload_n 0, 1) := by decide +kernel
theorem d_J13_bitCount_95d88_26 : decode cJ13_bitCount_95d88 26 = .ok (.iconst 4, 1) := by decide +kernel
theorem d_J13_bitCount_95d88_27 : decode cJ13_bitCount_95d88 27 = .ok (.lushr, 1) := by decide +kernel
theorem d_J13_bitCount_95d88_28 : decode cJ13_bitCount_95d88 28 = .ok (.ladd, 1) := by decide +kernel
theorem d_J13_bitCount_95d88_29 : decode cJ13_bitCount_95d88 29 = .ok (.ldc2_w 318, 3) := by decide +kernel
theorem d_J13_bitCount_95d88_32 : decode cJ13_bitCount_95d88 32 = .ok (.land, 1) := by decide +kernel
theorem d_J13_bitCount_95d88_33 : decode cJ13_bitCount_95d88 33 = .ok (.lstore_n 0, 1) := by decide +kernel
theorem d_J13_bitCount_95d88_34 : decode cJ13_bitCount_95d88 34 = .ok (.lload_n 0, 1) := by decide +kernel
theorem d_J13_bitCount_95d88_35 : decode cJ13_bitCount_95d88 35 = .ok (.lload_n 0, 1) := by decide +kernel
theorem d_J13_bitCount_95d88_36 : decode cJ13_bitCount_95d88 36 = .ok (.bipush 8, 2) := by decide +kernel
theorem d_J13_bitCount_95d88_38 : decode cJ13_bitCount_95d88 38 = .ok (.lushr, 1) := by decide +kernel
theorem d_J13_bitCount_95d88_39 : decode cJ13_bitCount_95d88 39 = .ok (.ladd, 1) := by decide +kernel
theorem d_J13_bitCount_95d88_40 : decode cJ13_bitCount_95d88 40 = .ok (.lstore_n 0, 1) := by decide +kernel
theorem d_J13_bitCount_95d88_41 : decode cJ13_bitCount_95d88 41 = .ok (.lload_n 0, 1) := by decide +kernel
theorem d_J13_bitCount_95d88_42 : decode cJ13_bitCount_95d88 42 = .ok (.lload_n 0, 1) := by decide +kernel
theorem d_J13_bitCount_95d88_43 : decode cJ13_bitCount_95d88 43 = .ok (.bipush 16, 2) := by decide +kernel
theorem d_J13_bitCount_95d88_45 : decode cJ13_bitCount_95d88 45 = .ok (.lushr, 1) := by decide +kernel
theorem d_J13_bitCount_95d88_46 : decode cJ13_bitCount_95d88 46 = .ok (.ladd, 1) := by decide +kernel
theorem d_J13_bitCount_95d88_47 : decode cJ13_bitCount_95d88 47 = .ok (.lstore_n 0, 1) := by decide +kernel
theorem d_J13_bitCount_95d88_48 : decode cJ13_bitCount_95d88 48 = .ok (.lload_n 0, 1) := by decide +kernel
theorem d_J13_bitCount_95d88_49 : decode cJ13_bitCount_95d88 49 = .ok (.lload_n 0, 1) := by decide +kernel
theorem d_J13_bitCount_95d88_50 : decode cJ13_bitCount_95d88 50 = .ok (.bipush 32, 2) := by decide +kernel
theorem d_J13_bitCount_95d88_52 : decode cJ13_bitCount_95d88 52 = .ok (.lushr, 1) := by decide +kernel
theorem d_J13_bitCount_95d88_53 : decode cJ13_bitCount_95d88 53 = .ok (.ladd, 1) := by decide +kernel
theorem d_J13_bitCount_95d88_54 : decode cJ13_bitCount_95d88 54 = .ok (.lstore_n 0, 1) := by decide +kernel
theorem d_J13_bitCount_95d88_55 : decode cJ13_bitCount_95d88 55 = .ok (.lload_n 0, 1) := by decide +kernel
theorem d_J13_bitCount_95d88_56 : decode cJ13_bitCount_95d88 56 = .ok (.l2i, 1) := by decide +kernel
theorem d_J13_bitCount_95d88_57 : decode cJ13_bitCount_95d88 57 = .ok (.bipush 127, 2) := by decide +kernel
theorem d_J13_bitCount_95d88_59 : decode cJ13_bitCount_95d88 59 = .ok (.iand, 1) := by decide +kernel
theorem d_J13_bitCount_95d88_60 : decode cJ13_bitCount_95d88 60 = .ok (.ireturn, 1) := by decide +kernel
theorem kl_314 : Cond.constantLong RJ13 314 6148914691236517205 ∈ tb := tb_in (List.mem_of_getElem? (i := 227) (by decide +kernel)) rfl
theorem kl_316 : Cond.constantLong RJ13 316 3689348814741910323 ∈ tb := tb_in (List.mem_of_getElem? (i := 228) (by decide +kernel)) rfl
theorem kl_318 : Cond.constantLong RJ13 318 1085102592571150095 ∈ tb := tb_in (List.mem_of_getElem? (i := 229) (by decide +kernel)) rfl
set_option maxHeartbeats 4000000 in
theorem c_J13_bitCount_95d88 {E : Ev} {n : Nat} {M : Mem} {x : Int64} : MT E yJ13_bitCount_95d88 cJ13_bitCount_95d88 2 (some .int) 0 0 0 [.long x] n M (PF (some (.int (lbc x))) n M) := by
  obtain ⟨l, D, cy, b⟩ := E
  refine Met.ofJ (cc := cJ13_bitCount_95d88) (maxL := 2) (ret := some .int) (by decide +kernel) rfl ?_
  intro p e s m args below meth c s₁ B hml hv
  obtain ⟨rfl, hbn, hsz, hok, hP, hK⟩ := hv
  have hts := atoms_spec (ws := wd yJ13_bitCount_95d88 cJ13_bitCount_95d88 2 (some .int)) B.pre
  have hown : s.vm.findClass RJ13 = some m.cls := findClass_of_methodNamed B.named
  have hx := B.exec
  have hb := B.bytes
  have hS : va_S (fun q => b ≤ q) s.heap s.heap [] := va_S.rf
  rw [lg_entry_eq]
  have hl0 : lv_has ((lg_sl [Value.long x] ++ List.replicate (2 - (lg_sl [Value.long x]).length) Slot.unset).toArray) 2 [(0, .long x)] := lv_entry [Value.long x] (n := 2) (show 2 ≤ 2 from Nat.le_refl _)
  generalize ((lg_sl [Value.long x] ++ List.replicate (2 - (lg_sl [Value.long x]).length) Slot.unset).toArray) = ls0 at hl0 ⊢
  refine lv_lload_n hx hb d_J13_bitCount_95d88_0 rfl (lv_at hl0 0 rfl) ?_
  refine lv_lload_n hx hb d_J13_bitCount_95d88_1 rfl (lv_at hl0 0 rfl) ?_
  refine lv_iconst hx hb d_J13_bitCount_95d88_2 (v := 1) rfl ?_
  refine lv_lushr hx hb d_J13_bitCount_95d88_3 (lush _ 1 1 (by decide)) ?_
  refine lv_ldc2 hx hb hown (hts _ (List.mem_cons_of_mem _ kl_314)) d_J13_bitCount_95d88_4 ?_
  refine lv_land hx hb d_J13_bitCount_95d88_7 ?_
  refine lv_lsub hx hb d_J13_bitCount_95d88_8 ?_
  refine lv_lstore_n (x := (lA x)) hx hb d_J13_bitCount_95d88_9 rfl hl0 (by decide) rfl (fun ls1 hl1 => ?_)
  refine lv_lload_n hx hb d_J13_bitCount_95d88_10 rfl (lv_at hl1 0 rfl) ?_
  refine lv_ldc2 hx hb hown (hts _ (List.mem_cons_of_mem _ kl_316)) d_J13_bitCount_95d88_11 ?_
  refine lv_land hx hb d_J13_bitCount_95d88_14 ?_
  refine lv_lload_n hx hb d_J13_bitCount_95d88_15 rfl (lv_at hl1 0 rfl) ?_
  refine lv_iconst hx hb d_J13_bitCount_95d88_16 (v := 2) rfl ?_
  refine lv_lushr hx hb d_J13_bitCount_95d88_17 (lush _ 2 2 (by decide)) ?_
  refine lv_ldc2 hx hb hown (hts _ (List.mem_cons_of_mem _ kl_316)) d_J13_bitCount_95d88_18 ?_
  refine lv_land hx hb d_J13_bitCount_95d88_21 ?_
  refine lv_ladd hx hb d_J13_bitCount_95d88_22 ?_
  refine lv_lstore_n (x := (lB (lA x))) hx hb d_J13_bitCount_95d88_23 rfl hl1 (by decide) rfl (fun ls2 hl2 => ?_)
  refine lv_lload_n hx hb d_J13_bitCount_95d88_24 rfl (lv_at hl2 0 rfl) ?_
  refine lv_lload_n hx hb d_J13_bitCount_95d88_25 rfl (lv_at hl2 0 rfl) ?_
  refine lv_iconst hx hb d_J13_bitCount_95d88_26 (v := 4) rfl ?_
  refine lv_lushr hx hb d_J13_bitCount_95d88_27 (lush _ 4 4 (by decide)) ?_
  refine lv_ladd hx hb d_J13_bitCount_95d88_28 ?_
  refine lv_ldc2 hx hb hown (hts _ (List.mem_cons_of_mem _ kl_318)) d_J13_bitCount_95d88_29 ?_
  refine lv_land hx hb d_J13_bitCount_95d88_32 ?_
  refine lv_lstore_n (x := (lC (lB (lA x)))) hx hb d_J13_bitCount_95d88_33 rfl hl2 (by decide) rfl (fun ls3 hl3 => ?_)
  refine lv_lload_n hx hb d_J13_bitCount_95d88_34 rfl (lv_at hl3 0 rfl) ?_
  refine lv_lload_n hx hb d_J13_bitCount_95d88_35 rfl (lv_at hl3 0 rfl) ?_
  refine lv_bipush hx hb d_J13_bitCount_95d88_36 (v := 8) rfl ?_
  refine lv_lushr hx hb d_J13_bitCount_95d88_38 (lush _ 8 8 (by decide)) ?_
  refine lv_ladd hx hb d_J13_bitCount_95d88_39 ?_
  refine lv_lstore_n (x := (lD (lC (lB (lA x))))) hx hb d_J13_bitCount_95d88_40 rfl hl3 (by decide) rfl (fun ls4 hl4 => ?_)
  refine lv_lload_n hx hb d_J13_bitCount_95d88_41 rfl (lv_at hl4 0 rfl) ?_
  refine lv_lload_n hx hb d_J13_bitCount_95d88_42 rfl (lv_at hl4 0 rfl) ?_
  refine lv_bipush hx hb d_J13_bitCount_95d88_43 (v := 16) rfl ?_
  refine lv_lushr hx hb d_J13_bitCount_95d88_45 (lush _ 16 16 (by decide)) ?_
  refine lv_ladd hx hb d_J13_bitCount_95d88_46 ?_
  refine lv_lstore_n (x := (lE (lD (lC (lB (lA x)))))) hx hb d_J13_bitCount_95d88_47 rfl hl4 (by decide) rfl (fun ls5 hl5 => ?_)
  refine lv_lload_n hx hb d_J13_bitCount_95d88_48 rfl (lv_at hl5 0 rfl) ?_
  refine lv_lload_n hx hb d_J13_bitCount_95d88_49 rfl (lv_at hl5 0 rfl) ?_
  refine lv_bipush hx hb d_J13_bitCount_95d88_50 (v := 32) rfl ?_
  refine lv_lushr hx hb d_J13_bitCount_95d88_52 (lush _ 32 32 (by decide)) ?_
  refine lv_ladd hx hb d_J13_bitCount_95d88_53 ?_
  refine lv_lstore_n (x := (lF (lE (lD (lC (lB (lA x))))))) hx hb d_J13_bitCount_95d88_54 rfl hl5 (by decide) rfl (fun ls6 hl6 => ?_)
  refine lv_lload_n hx hb d_J13_bitCount_95d88_55 rfl (lv_at hl6 0 rfl) ?_
  refine lv_l2i hx hb d_J13_bitCount_95d88_56 rfl ?_
  refine lv_bipush hx hb d_J13_bitCount_95d88_57 (v := 127) rfl ?_
  refine lv_iand hx hb d_J13_bitCount_95d88_59 ?_
  exact W.iret (Qc := QQ (l, D, cy, b) (PF (some (.int (lbc x))) n M)) hx hb B.returns (fun t ht hW => ⟨⟨_, n, M, rfl, ⟨rfl, rfl, rfl⟩, by rw [ht]; exact hsz, hok, by rw [ht]; exact hP, KK.warm hW hK⟩, hS.F ht⟩) hS.2.2 d_J13_bitCount_95d88_60 B.notSynchronized
