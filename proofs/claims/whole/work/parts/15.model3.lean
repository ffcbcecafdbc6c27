theorem d_X7_toldNow_0 : Dc cX7_toldNow 0 1 1 (.aload_n 0) := ⟨by decide +kernel, rfl⟩
theorem d_X7_toldNow_1 : Dc cX7_toldNow 1 1 2 (.iload_n 1) := ⟨by decide +kernel, rfl⟩
theorem d_X7_toldNow_2 : Dc cX7_toldNow 2 1 3 (.aload_n 0) := ⟨by decide +kernel, rfl⟩
theorem d_X7_toldNow_3 : Dc cX7_toldNow 3 1 4 (.iload_n 1) := ⟨by decide +kernel, rfl⟩
theorem d_X7_toldNow_4 : Dc cX7_toldNow 4 2 6 (.bipush 8) := ⟨by decide +kernel, rfl⟩
theorem d_X7_toldNow_6 : Dc cX7_toldNow 6 3 9 (.invokevirtual 50) := ⟨by decide +kernel, rfl⟩
theorem d_X7_toldNow_9 : Dc cX7_toldNow 9 3 12 (.invokevirtual 60) := ⟨by decide +kernel, rfl⟩
theorem d_X7_toldNow_12 : decode cX7_toldNow 12 = .ok (.ireturn, 1) := by decide +kernel
set_option maxHeartbeats 4000000 in
set_option maxRecDepth 20000 in
theorem c_X7_toldNow {E : Ev} {n : Nat} {M : Mem} {m : Nat} {s : Int → Int} (hs : MS E M m s) {p : Int} (hk : OkP s p) (hp : 0 ≤ p ∧ p < 6) : MT E yX7_toldNow cX7_toldNow 2 (some .int) 4 0 0 [.ref m, .int (iI p)] n M (PF (some (.int (iI (bP s p (s (103 * p + 8)))))) n M) := by
  refine MT.of (by decide) rfl (Nat.le_of_ble_eq_true rfl) ?_
  intro X g
  have g0 := g.1
  show V E X 0 0 n M 0 [some (.ref m), some (.int (iI p))] []
  obtain ⟨⟨fr, hm⟩, ha⟩ := id hs
  have hst := hk.stm
  refine V.al0 g0 d_X7_toldNow_0 ?_
  refine V.il1 g0 d_X7_toldNow_1 ?_
  refine V.al0 g0 d_X7_toldNow_2 ?_
  refine V.il1 g0 d_X7_toldNow_3 ?_
  refine V.bipush g0 d_X7_toldNow_4 (by decide) ?_
  refine V.callVp g0 (c_X7_get hs (by omega)) ky_X7_get ki_X7_get ks2_X7_get lk_X7_50 (by assumption) rfl rfl (Nat.le_of_ble_eq_true rfl) ⟨Nat.zero_le _, Nat.zero_le _⟩ rfl rfl (Nat.le_of_ble_eq_true rfl) d_X7_toldNow_6 ?_
  refine V.callVp g0 (c_X7_toldBy hs hk hp (by omega)) ky_X7_toldBy ki_X7_toldBy ks2_X7_toldBy lk_X7_60 (by assumption) rfl rfl (Nat.le_of_ble_eq_true rfl) ⟨Nat.zero_le _, Nat.zero_le _⟩ rfl rfl (Nat.le_of_ble_eq_true rfl) d_X7_toldNow_9 ?_
  refine V.iret g d_X7_toldNow_12 (Nat.zero_le _) (Nat.zero_le _) ⟨congrArg (fun z => some (Value.int (iI z))) ?_, rfl, rfl⟩
  rfl

theorem d_X7_visas_0 : Dc cX7_visas 0 1 1 (.iconst 0) := ⟨by decide +kernel, rfl⟩
theorem d_X7_visas_1 : Dc cX7_visas 1 1 2 (.istore_n 3) := ⟨by decide +kernel, rfl⟩
theorem d_X7_visas_2 : Dc cX7_visas 2 1 3 (.iconst 0) := ⟨by decide +kernel, rfl⟩
theorem d_X7_visas_3 : Dc cX7_visas 3 2 5 (.istore 4) := ⟨by decide +kernel, rfl⟩
theorem d_X7_visas_5 : Dc cX7_visas 5 2 7 (.iload 4) := ⟨by decide +kernel, rfl⟩
theorem d_X7_visas_7 : Dc cX7_visas 7 2 9 (.bipush 6) := ⟨by decide +kernel, rfl⟩
theorem d_X7_visas_9 : Dj cX7_visas 9 12 66 (.if_icmp .ge) := ⟨57, by decide +kernel, rfl, by decide⟩
theorem d_X7_visas_12 : Dc cX7_visas 12 1 13 (.iload_n 3) := ⟨by decide +kernel, rfl⟩
theorem d_X7_visas_13 : Dc cX7_visas 13 1 14 (.iload_n 2) := ⟨by decide +kernel, rfl⟩
theorem d_X7_visas_14 : Dj cX7_visas 14 17 43 (.ifCond .eq) := ⟨29, by decide +kernel, rfl, by decide⟩
theorem d_X7_visas_17 : Dc cX7_visas 17 1 18 (.aload_n 0) := ⟨by decide +kernel, rfl⟩
theorem d_X7_visas_18 : Dc cX7_visas 18 1 19 (.iload_n 1) := ⟨by decide +kernel, rfl⟩
theorem d_X7_visas_19 : Dc cX7_visas 19 2 21 (.iload 4) := ⟨by decide +kernel, rfl⟩
theorem d_X7_visas_21 : Dc cX7_visas 21 1 22 (.aload_n 0) := ⟨by decide +kernel, rfl⟩
theorem d_X7_visas_22 : Dc cX7_visas 22 3 25 (.getfield 7) := ⟨by decide +kernel, rfl⟩
theorem d_X7_visas_25 : Dc cX7_visas 25 3 28 (.sipush 618) := ⟨by decide +kernel, rfl⟩
theorem d_X7_visas_28 : Dc cX7_visas 28 1 29 .iaload := ⟨by decide +kernel, rfl⟩
theorem d_X7_visas_29 : Dc cX7_visas 29 3 32 (.invokevirtual 86) := ⟨by decide +kernel, rfl⟩
theorem d_X7_visas_32 : Dj cX7_visas 32 35 39 (.ifCond .eq) := ⟨7, by decide +kernel, rfl, by decide⟩
theorem d_X7_visas_35 : Dc cX7_visas 35 1 36 (.iconst 1) := ⟨by decide +kernel, rfl⟩
theorem d_X7_visas_36 : Dj cX7_visas 36 39 58 .goto := ⟨22, by decide +kernel, rfl, by decide⟩
theorem d_X7_visas_39 : Dc cX7_visas 39 1 40 (.iconst 0) := ⟨by decide +kernel, rfl⟩
theorem d_X7_visas_40 : Dj cX7_visas 40 43 58 .goto := ⟨18, by decide +kernel, rfl, by decide⟩
theorem d_X7_visas_43 : Dc cX7_visas 43 1 44 (.aload_n 0) := ⟨by decide +kernel, rfl⟩
theorem d_X7_visas_44 : Dc cX7_visas 44 1 45 (.iload_n 1) := ⟨by decide +kernel, rfl⟩
theorem d_X7_visas_45 : Dc cX7_visas 45 2 47 (.iload 4) := ⟨by decide +kernel, rfl⟩
theorem d_X7_visas_47 : Dc cX7_visas 47 3 50 (.invokevirtual 73) := ⟨by decide +kernel, rfl⟩
theorem d_X7_visas_50 : Dj cX7_visas 50 53 57 (.ifCond .eq) := ⟨7, by decide +kernel, rfl, by decide⟩
theorem d_X7_visas_53 : Dc cX7_visas 53 1 54 (.iconst 1) := ⟨by decide +kernel, rfl⟩
theorem d_X7_visas_54 : Dj cX7_visas 54 57 58 .goto := ⟨4, by decide +kernel, rfl, by decide⟩
theorem d_X7_visas_57 : Dc cX7_visas 57 1 58 (.iconst 0) := ⟨by decide +kernel, rfl⟩
theorem d_X7_visas_58 : Dc cX7_visas 58 1 59 .iadd := ⟨by decide +kernel, rfl⟩
theorem d_X7_visas_59 : Dc cX7_visas 59 1 60 (.istore_n 3) := ⟨by decide +kernel, rfl⟩
theorem d_X7_visas_60 : Dc cX7_visas 60 3 63 (.iinc 4 1) := ⟨by decide +kernel, rfl⟩
theorem d_X7_visas_63 : Dj cX7_visas 63 66 5 .goto := ⟨(-58), by decide +kernel, rfl, by decide⟩
theorem d_X7_visas_66 : Dc cX7_visas 66 1 67 (.iload_n 3) := ⟨by decide +kernel, rfl⟩
theorem d_X7_visas_67 : decode cX7_visas 67 = .ok (.ireturn, 1) := by decide +kernel
set_option maxHeartbeats 4000000 in
set_option maxRecDepth 20000 in
theorem c_X7_visas {E : Ev} {n : Nat} {M : Mem} {m : Nat} {s : Int → Int} (hs : MS E M m s) {p : Int} (hk : OkP s p) (hp : 0 ≤ p ∧ p < 6) {f : Int} (hf : f = 0 ∨ f = 1) : MT E yX7_visas cX7_visas 5 (some .int) 5 0 0 [.ref m, .int (iI p), .int (iI f)] n M (PF (some (.int (iI (visN s p f)))) n M) := by
  refine MT.of (by decide) rfl (Nat.le_of_ble_eq_true rfl) ?_
  intro X g
  have g0 := g.1
  show V E X 0 0 n M 0 [some (.ref m), some (.int (iI p)), some (.int (iI f)), none, none] []
  obtain ⟨⟨fr, hm⟩, ha⟩ := id hs
  have hb := hk.bgo
  refine V.iconst g0 d_X7_visas_0 ?_
  refine V.is3 g0 d_X7_visas_1 ?_
  refine V.iconst g0 d_X7_visas_2 ?_
  refine V.is4 g0 d_X7_visas_3 ?_
  have LP : ∀ (f2 i : Nat) (t : Int), i + f2 = 6 → t = sumI (fun c => if f = 0 then bI (hasV s p c) else bI (validOn s p c (s 618))) i → V E X 0 0 n M 5 [some (.ref m), some (.int (iI p)), some (.int (iI f)), some (.int (iI t)), some (.int (iI (i : Int)))] [] := by
    intro f2
    induction f2 using Nat.strongRecOn with
    | _ f2 ih =>
    intro i t hf2 ht
    refine V.il4 g0 d_X7_visas_5 ?_
    refine V.bipush g0 d_X7_visas_7 (by decide) ?_
    refine V.icmpge g0 d_X7_visas_9 (by omega) (fun c_9 => ?_) (fun c_9 => ?_)
    · skip
      refine V.il3 g0 d_X7_visas_66 ?_
      refine V.iret g d_X7_visas_67 (Nat.zero_le _) (Nat.zero_le _) ⟨congrArg (fun z => some (Value.int (iI z))) ?_, rfl, rfl⟩
      rw [ht, show i = 6 by omega]; rfl
    · skip
      refine V.il3 g0 d_X7_visas_12 ?_
      refine V.il2 g0 d_X7_visas_13 ?_
      refine V.ifeq g0 d_X7_visas_14 (by omega) (fun c_14 => ?_) (fun c_14 => ?_)
      · skip
        refine V.al0 g0 d_X7_visas_43 ?_
        refine V.il1 g0 d_X7_visas_44 ?_
        refine V.il4 g0 d_X7_visas_45 ?_
        refine V.callVp g0 (c_X7_hasVisa hs hk hp (by omega)) ky_X7_hasVisa ki_X7_hasVisa ks2_X7_hasVisa lk_X7_73 (by assumption) rfl rfl (Nat.le_of_ble_eq_true rfl) ⟨Nat.zero_le _, Nat.zero_le _⟩ rfl rfl (Nat.le_of_ble_eq_true rfl) d_X7_visas_47 ?_
        refine V.ifeqB g0 d_X7_visas_50 (fun c_50 => ?_) (fun c_50 => ?_)
        · skip
          refine V.iconst g0 d_X7_visas_57 ?_
          refine V.iadd g0 d_X7_visas_58 ?_
          refine V.is3 g0 d_X7_visas_59 ?_
          refine V.inc4 g0 d_X7_visas_60 ?_
          refine V.goto g0 d_X7_visas_63 ?_
          exact ih (f2 - 1) (by omega) (i + 1) _ (by omega) (by rw [sumI_s, ht]; first | rw [if_pos c_14, bI_t (by assumption)] | rw [if_pos c_14, bI_f (by assumption)] | rw [if_neg c_14, bI_t (by assumption)] | rw [if_neg c_14, bI_f (by assumption)])
        · skip
          refine V.iconst g0 d_X7_visas_53 ?_
          refine V.goto g0 d_X7_visas_54 ?_
          refine V.iadd g0 d_X7_visas_58 ?_
          refine V.is3 g0 d_X7_visas_59 ?_
          refine V.inc4 g0 d_X7_visas_60 ?_
          refine V.goto g0 d_X7_visas_63 ?_
          exact ih (f2 - 1) (by omega) (i + 1) _ (by omega) (by rw [sumI_s, ht]; first | rw [if_pos c_14, bI_t (by assumption)] | rw [if_pos c_14, bI_f (by assumption)] | rw [if_neg c_14, bI_t (by assumption)] | rw [if_neg c_14, bI_f (by assumption)])
      · skip
        refine V.al0 g0 d_X7_visas_17 ?_
        refine V.il1 g0 d_X7_visas_18 ?_
        refine V.il4 g0 d_X7_visas_19 ?_
        refine V.al0 g0 d_X7_visas_21 ?_
        refine V.getf g0 d_X7_visas_22 fl_X7_7 (by assumption) (by rfl) ?_
        refine V.sipush g0 d_X7_visas_25 (by decide) ?_
        refine V.iald g0 d_X7_visas_28 (by assumption) (by omega) (by decide) ?_
        refine V.callVp g0 (c_X7_isValidOn hs hk hp (by omega) (by omega)) ky_X7_isValidOn ki_X7_isValidOn ks2_X7_isValidOn lk_X7_86 (by assumption) rfl rfl (Nat.le_of_ble_eq_true rfl) ⟨Nat.zero_le _, Nat.zero_le _⟩ rfl rfl (Nat.le_of_ble_eq_true rfl) d_X7_visas_29 ?_
        refine V.ifeqB g0 d_X7_visas_32 (fun c_32 => ?_) (fun c_32 => ?_)
        · skip
          refine V.iconst g0 d_X7_visas_39 ?_
          refine V.goto g0 d_X7_visas_40 ?_
          refine V.iadd g0 d_X7_visas_58 ?_
          refine V.is3 g0 d_X7_visas_59 ?_
          refine V.inc4 g0 d_X7_visas_60 ?_
          refine V.goto g0 d_X7_visas_63 ?_
          exact ih (f2 - 1) (by omega) (i + 1) _ (by omega) (by rw [sumI_s, ht]; first | rw [if_pos c_14, bI_t (by assumption)] | rw [if_pos c_14, bI_f (by assumption)] | rw [if_neg c_14, bI_t (by assumption)] | rw [if_neg c_14, bI_f (by assumption)])
        · skip
          refine V.iconst g0 d_X7_visas_35 ?_
          refine V.goto g0 d_X7_visas_36 ?_
          refine V.iadd g0 d_X7_visas_58 ?_
          refine V.is3 g0 d_X7_visas_59 ?_
          refine V.inc4 g0 d_X7_visas_60 ?_
          refine V.goto g0 d_X7_visas_63 ?_
          exact ih (f2 - 1) (by omega) (i + 1) _ (by omega) (by rw [sumI_s, ht]; first | rw [if_pos c_14, bI_t (by assumption)] | rw [if_pos c_14, bI_f (by assumption)] | rw [if_neg c_14, bI_t (by assumption)] | rw [if_neg c_14, bI_f (by assumption)])
  exact LP 6 0 0 rfl rfl

theorem d_X7_passport_0 : Dc cX7_passport 0 1 1 (.aload_n 0) := ⟨by decide +kernel, rfl⟩
theorem d_X7_passport_1 : Dc cX7_passport 1 1 2 (.iload_n 1) := ⟨by decide +kernel, rfl⟩
theorem d_X7_passport_2 : Dc cX7_passport 2 3 5 (.invokevirtual 36) := ⟨by decide +kernel, rfl⟩
theorem d_X7_passport_5 : Dj cX7_passport 5 8 10 (.ifCond .ne) := ⟨5, by decide +kernel, rfl, by decide⟩
theorem d_X7_passport_8 : Dc cX7_passport 8 1 9 (.iconst (-1)) := ⟨by decide +kernel, rfl⟩
theorem d_X7_passport_9 : decode cX7_passport 9 = .ok (.ireturn, 1) := by decide +kernel
theorem d_X7_passport_10 : Dc cX7_passport 10 1 11 (.iload_n 2) := ⟨by decide +kernel, rfl⟩
theorem d_X7_passport_11 : decode cX7_passport 11 = .ok (.tableswitch 111 0 8 #[49, 56, 63, 69, 77, 83, 90, 97, 104], 49) := by decide +kernel
theorem d_X7_passport_60 : Dc cX7_passport 60 1 61 (.aload_n 0) := ⟨by decide +kernel, rfl⟩
theorem d_X7_passport_61 : Dc cX7_passport 61 1 62 (.iload_n 1) := ⟨by decide +kernel, rfl⟩
theorem d_X7_passport_62 : Dc cX7_passport 62 1 63 (.iconst 0) := ⟨by decide +kernel, rfl⟩
theorem d_X7_passport_63 : Dc cX7_passport 63 3 66 (.invokevirtual 50) := ⟨by decide +kernel, rfl⟩
theorem d_X7_passport_66 : decode cX7_passport 66 = .ok (.ireturn, 1) := by decide +kernel
theorem d_X7_passport_67 : Dc cX7_passport 67 1 68 (.aload_n 0) := ⟨by decide +kernel, rfl⟩
theorem d_X7_passport_68 : Dc cX7_passport 68 1 69 (.iload_n 1) := ⟨by decide +kernel, rfl⟩
theorem d_X7_passport_69 : Dc cX7_passport 69 1 70 (.iconst 2) := ⟨by decide +kernel, rfl⟩
theorem d_X7_passport_70 : Dc cX7_passport 70 3 73 (.invokevirtual 50) := ⟨by decide +kernel, rfl⟩
theorem d_X7_passport_73 : decode cX7_passport 73 = .ok (.ireturn, 1) := by decide +kernel
theorem d_X7_passport_74 : Dc cX7_passport 74 1 75 (.aload_n 0) := ⟨by decide +kernel, rfl⟩
theorem d_X7_passport_75 : Dc cX7_passport 75 1 76 (.iload_n 1) := ⟨by decide +kernel, rfl⟩
theorem d_X7_passport_76 : Dc cX7_passport 76 3 79 (.invokevirtual 212) := ⟨by decide +kernel, rfl⟩
theorem d_X7_passport_79 : decode cX7_passport 79 = .ok (.ireturn, 1) := by decide +kernel
theorem d_X7_passport_80 : Dc cX7_passport 80 1 81 (.aload_n 0) := ⟨by decide +kernel, rfl⟩
theorem d_X7_passport_81 : Dc cX7_passport 81 1 82 (.iload_n 1) := ⟨by decide +kernel, rfl⟩
theorem d_X7_passport_82 : Dc cX7_passport 82 2 84 (.bipush 8) := ⟨by decide +kernel, rfl⟩
theorem d_X7_passport_84 : Dc cX7_passport 84 3 87 (.invokevirtual 50) := ⟨by decide +kernel, rfl⟩
theorem d_X7_passport_87 : decode cX7_passport 87 = .ok (.ireturn, 1) := by decide +kernel
theorem d_X7_passport_88 : Dc cX7_passport 88 1 89 (.aload_n 0) := ⟨by decide +kernel, rfl⟩
theorem d_X7_passport_89 : Dc cX7_passport 89 1 90 (.iload_n 1) := ⟨by decide +kernel, rfl⟩
theorem d_X7_passport_90 : Dc cX7_passport 90 3 93 (.invokevirtual 215) := ⟨by decide +kernel, rfl⟩
theorem d_X7_passport_93 : decode cX7_passport 93 = .ok (.ireturn, 1) := by decide +kernel
theorem d_X7_passport_94 : Dc cX7_passport 94 1 95 (.aload_n 0) := ⟨by decide +kernel, rfl⟩
theorem d_X7_passport_95 : Dc cX7_passport 95 1 96 (.iload_n 1) := ⟨by decide +kernel, rfl⟩
theorem d_X7_passport_96 : Dc cX7_passport 96 1 97 (.iconst 3) := ⟨by decide +kernel, rfl⟩
theorem d_X7_passport_97 : Dc cX7_passport 97 3 100 (.invokevirtual 50) := ⟨by decide +kernel, rfl⟩
theorem d_X7_passport_100 : decode cX7_passport 100 = .ok (.ireturn, 1) := by decide +kernel
theorem d_X7_passport_101 : Dc cX7_passport 101 1 102 (.aload_n 0) := ⟨by decide +kernel, rfl⟩
theorem d_X7_passport_102 : Dc cX7_passport 102 1 103 (.iload_n 1) := ⟨by decide +kernel, rfl⟩
theorem d_X7_passport_103 : Dc cX7_passport 103 1 104 (.iconst 4) := ⟨by decide +kernel, rfl⟩
theorem d_X7_passport_104 : Dc cX7_passport 104 3 107 (.invokevirtual 50) := ⟨by decide +kernel, rfl⟩
theorem d_X7_passport_107 : decode cX7_passport 107 = .ok (.ireturn, 1) := by decide +kernel
theorem d_X7_passport_108 : Dc cX7_passport 108 1 109 (.aload_n 0) := ⟨by decide +kernel, rfl⟩
theorem d_X7_passport_109 : Dc cX7_passport 109 1 110 (.iload_n 1) := ⟨by decide +kernel, rfl⟩
theorem d_X7_passport_110 : Dc cX7_passport 110 1 111 (.iconst 5) := ⟨by decide +kernel, rfl⟩
theorem d_X7_passport_111 : Dc cX7_passport 111 3 114 (.invokevirtual 50) := ⟨by decide +kernel, rfl⟩
theorem d_X7_passport_114 : decode cX7_passport 114 = .ok (.ireturn, 1) := by decide +kernel
theorem d_X7_passport_115 : Dc cX7_passport 115 1 116 (.aload_n 0) := ⟨by decide +kernel, rfl⟩
theorem d_X7_passport_116 : Dc cX7_passport 116 1 117 (.iload_n 1) := ⟨by decide +kernel, rfl⟩
theorem d_X7_passport_117 : Dc cX7_passport 117 1 118 (.iconst 0) := ⟨by decide +kernel, rfl⟩
theorem d_X7_passport_118 : Dc cX7_passport 118 3 121 (.invokevirtual 218) := ⟨by decide +kernel, rfl⟩
theorem d_X7_passport_121 : decode cX7_passport 121 = .ok (.ireturn, 1) := by decide +kernel
theorem d_X7_passport_122 : Dc cX7_passport 122 2 124 (.bipush (-2)) := ⟨by decide +kernel, rfl⟩
theorem d_X7_passport_124 : decode cX7_passport 124 = .ok (.ireturn, 1) := by decide +kernel
set_option maxHeartbeats 4000000 in
set_option maxRecDepth 20000 in
theorem c_X7_passport {E : Ev} {n : Nat} {M : Mem} {m : Nat} {s : Int → Int} (hs : MS E M m s) (hO : Ok s) {p w : Int} (h1 : rg p) (h2 : rg w) : MT E yX7_passport cX7_passport 3 (some .int) 6 0 0 [.ref m, .int (iI p), .int (iI w)] n M (PF (some (.int (iI (q_passport s p w)))) n M) := by
  refine MT.of (by decide) rfl (Nat.le_of_ble_eq_true rfl) ?_
  intro X g
  have g0 := g.1
  show V E X 0 0 n M 0 [some (.ref m), some (.int (iI p)), some (.int (iI w))] []
  obtain ⟨⟨fr, hm⟩, ha⟩ := id hs
  have hmn := hO.many
  refine V.al0 g0 d_X7_passport_0 ?_
  refine V.il1 g0 d_X7_passport_1 ?_
  refine V.callVp g0 (c_X7_isPassport hs h1 hmn) ky_X7_isPassport ki_X7_isPassport ks2_X7_isPassport lk_X7_36 (by assumption) rfl rfl (Nat.le_of_ble_eq_true rfl) ⟨Nat.zero_le _, Nat.zero_le _⟩ rfl rfl (Nat.le_of_ble_eq_true rfl) d_X7_passport_2 ?_
  refine V.ifneB g0 d_X7_passport_5 (fun c_5 => ?_) (fun c_5 => ?_)
  · skip
    rw [q_passport, if_neg (fun h => h c_5)] at g
    have hk := hO.at c_5.1 (by omega)
    have hp : 0 ≤ p ∧ p < 6 := by omega
    refine V.il2 g0 d_X7_passport_10 ?_
    rcases (show (w < 0 ∨ 8 < w) ∨ w = 0 ∨ w = 1 ∨ w = 2 ∨ w = 3 ∨ w = 4 ∨ w = 5 ∨ w = 6 ∨ w = 7 ∨ w = 8 by omega) with w_11 | w_11 | w_11 | w_11 | w_11 | w_11 | w_11 | w_11 | w_11 | w_11
    · refine V.tout (q := 0) (t := 122) g0 d_X7_passport_11 (by omega) w_11 (by decide) ?_
      refine V.bipush g0 d_X7_passport_122 (by decide) ?_
      refine V.iret g d_X7_passport_124 (Nat.zero_le _) (Nat.zero_le _) ⟨congrArg (fun z => some (Value.int (iI z))) ?_, rfl, rfl⟩
      rw [passF, if_neg (by omega), if_neg (by omega), if_neg (by omega), if_neg (by omega), if_neg (by omega), if_neg (by omega), if_neg (by omega), if_neg (by omega), if_neg (by omega)]
    · refine V.tin (q := 0) (off := 49) (t := 60) g0 d_X7_passport_11 (by omega) (by omega) (by omega) (by rw [w_11]; rfl) (by decide) ?_
      refine V.al0 g0 d_X7_passport_60 ?_
      refine V.il1 g0 d_X7_passport_61 ?_
      refine V.iconst g0 d_X7_passport_62 ?_
      refine V.callVp g0 (c_X7_get hs (by omega)) ky_X7_get ki_X7_get ks2_X7_get lk_X7_50 (by assumption) rfl rfl (Nat.le_of_ble_eq_true rfl) ⟨Nat.zero_le _, Nat.zero_le _⟩ rfl rfl (Nat.le_of_ble_eq_true rfl) d_X7_passport_63 ?_
      refine V.iret g d_X7_passport_66 (Nat.zero_le _) (Nat.zero_le _) ⟨congrArg (fun z => some (Value.int (iI z))) ?_, rfl, rfl⟩
      rw [w_11]; rfl
    · refine V.tin (q := 0) (off := 56) (t := 67) g0 d_X7_passport_11 (by omega) (by omega) (by omega) (by rw [w_11]; rfl) (by decide) ?_
      refine V.al0 g0 d_X7_passport_67 ?_
      refine V.il1 g0 d_X7_passport_68 ?_
      refine V.iconst g0 d_X7_passport_69 ?_
      refine V.callVp g0 (c_X7_get hs (by omega)) ky_X7_get ki_X7_get ks2_X7_get lk_X7_50 (by assumption) rfl rfl (Nat.le_of_ble_eq_true rfl) ⟨Nat.zero_le _, Nat.zero_le _⟩ rfl rfl (Nat.le_of_ble_eq_true rfl) d_X7_passport_70 ?_
      refine V.iret g d_X7_passport_73 (Nat.zero_le _) (Nat.zero_le _) ⟨congrArg (fun z => some (Value.int (iI z))) ?_, rfl, rfl⟩
      rw [w_11]; rfl
    · refine V.tin (q := 0) (off := 63) (t := 74) g0 d_X7_passport_11 (by omega) (by omega) (by omega) (by rw [w_11]; rfl) (by decide) ?_
      refine V.al0 g0 d_X7_passport_74 ?_
      refine V.il1 g0 d_X7_passport_75 ?_
      refine V.callVp g0 (c_X7_toldNow hs hk hp) ky_X7_toldNow ki_X7_toldNow ks2_X7_toldNow lk_X7_212 (by assumption) rfl rfl (Nat.le_of_ble_eq_true rfl) ⟨Nat.zero_le _, Nat.zero_le _⟩ rfl rfl (Nat.le_of_ble_eq_true rfl) d_X7_passport_76 ?_
      refine V.iret g d_X7_passport_79 (Nat.zero_le _) (Nat.zero_le _) ⟨congrArg (fun z => some (Value.int (iI z))) ?_, rfl, rfl⟩
      rw [w_11]; rfl
    · refine V.tin (q := 0) (off := 69) (t := 80) g0 d_X7_passport_11 (by omega) (by omega) (by omega) (by rw [w_11]; rfl) (by decide) ?_
      refine V.al0 g0 d_X7_passport_80 ?_
      refine V.il1 g0 d_X7_passport_81 ?_
      refine V.bipush g0 d_X7_passport_82 (by decide) ?_
      refine V.callVp g0 (c_X7_get hs (by omega)) ky_X7_get ki_X7_get ks2_X7_get lk_X7_50 (by assumption) rfl rfl (Nat.le_of_ble_eq_true rfl) ⟨Nat.zero_le _, Nat.zero_le _⟩ rfl rfl (Nat.le_of_ble_eq_true rfl) d_X7_passport_84 ?_
      refine V.iret g d_X7_passport_87 (Nat.zero_le _) (Nat.zero_le _) ⟨congrArg (fun z => some (Value.int (iI z))) ?_, rfl, rfl⟩
      rw [w_11]; rfl
    · refine V.tin (q := 0) (off := 77) (t := 88) g0 d_X7_passport_11 (by omega) (by omega) (by omega) (by rw [w_11]; rfl) (by decide) ?_
      refine V.al0 g0 d_X7_passport_88 ?_
      refine V.il1 g0 d_X7_passport_89 ?_
      refine V.callVp g0 (c_X7_gapsOf hs hk hp) ky_X7_gapsOf ki_X7_gapsOf ks2_X7_gapsOf lk_X7_215 (by assumption) rfl rfl (Nat.le_of_ble_eq_true rfl) ⟨Nat.zero_le _, Nat.zero_le _⟩ rfl rfl (Nat.le_of_ble_eq_true rfl) d_X7_passport_90 ?_
      refine V.iret g d_X7_passport_93 (Nat.zero_le _) (Nat.zero_le _) ⟨congrArg (fun z => some (Value.int (iI z))) ?_, rfl, rfl⟩
      rw [w_11]; rfl
    · refine V.tin (q := 0) (off := 83) (t := 94) g0 d_X7_passport_11 (by omega) (by omega) (by omega) (by rw [w_11]; rfl) (by decide) ?_
      refine V.al0 g0 d_X7_passport_94 ?_
      refine V.il1 g0 d_X7_passport_95 ?_
      refine V.iconst g0 d_X7_passport_96 ?_
      refine V.callVp g0 (c_X7_get hs (by omega)) ky_X7_get ki_X7_get ks2_X7_get lk_X7_50 (by assumption) rfl rfl (Nat.le_of_ble_eq_true rfl) ⟨Nat.zero_le _, Nat.zero_le _⟩ rfl rfl (Nat.le_of_ble_eq_true rfl) d_X7_passport_97 ?_
      refine V.iret g d_X7_passport_100 (Nat.zero_le _) (Nat.zero_le _) ⟨congrArg (fun z => some (Value.int (iI z))) ?_, rfl, rfl⟩
      rw [w_11]; rfl
    · refine V.tin (q := 0) (off := 90) (t := 101) g0 d_X7_passport_11 (by omega) (by omega) (by omega) (by rw [w_11]; rfl) (by decide) ?_
      refine V.al0 g0 d_X7_passport_101 ?_
      refine V.il1 g0 d_X7_passport_102 ?_
      refine V.iconst g0 d_X7_passport_103 ?_
      refine V.callVp g0 (c_X7_get hs (by omega)) ky_X7_get ki_X7_get ks2_X7_get lk_X7_50 (by assumption) rfl rfl (Nat.le_of_ble_eq_true rfl) ⟨Nat.zero_le _, Nat.zero_le _⟩ rfl rfl (Nat.le_of_ble_eq_true rfl) d_X7_passport_104 ?_
      refine V.iret g d_X7_passport_107 (Nat.zero_le _) (Nat.zero_le _) ⟨congrArg (fun z => some (Value.int (iI z))) ?_, rfl, rfl⟩
      rw [w_11]; rfl
    · refine V.tin (q := 0) (off := 97) (t := 108) g0 d_X7_passport_11 (by omega) (by omega) (by omega) (by rw [w_11]; rfl) (by decide) ?_
      refine V.al0 g0 d_X7_passport_108 ?_
      refine V.il1 g0 d_X7_passport_109 ?_
      refine V.iconst g0 d_X7_passport_110 ?_
      refine V.callVp g0 (c_X7_get hs (by omega)) ky_X7_get ki_X7_get ks2_X7_get lk_X7_50 (by assumption) rfl rfl (Nat.le_of_ble_eq_true rfl) ⟨Nat.zero_le _, Nat.zero_le _⟩ rfl rfl (Nat.le_of_ble_eq_true rfl) d_X7_passport_111 ?_
      refine V.iret g d_X7_passport_114 (Nat.zero_le _) (Nat.zero_le _) ⟨congrArg (fun z => some (Value.int (iI z))) ?_, rfl, rfl⟩
      rw [w_11]; rfl
    · refine V.tin (q := 0) (off := 104) (t := 115) g0 d_X7_passport_11 (by omega) (by omega) (by omega) (by rw [w_11]; rfl) (by decide) ?_
      refine V.al0 g0 d_X7_passport_115 ?_
      refine V.il1 g0 d_X7_passport_116 ?_
      refine V.iconst g0 d_X7_passport_117 ?_
      refine V.callVp g0 (c_X7_visas hs hk hp (Or.inl rfl)) ky_X7_visas ki_X7_visas ks2_X7_visas lk_X7_218 (by assumption) rfl rfl (Nat.le_of_ble_eq_true rfl) ⟨Nat.zero_le _, Nat.zero_le _⟩ rfl rfl (Nat.le_of_ble_eq_true rfl) d_X7_passport_118 ?_
      refine V.iret g d_X7_passport_121 (Nat.zero_le _) (Nat.zero_le _) ⟨congrArg (fun z => some (Value.int (iI z))) ?_, rfl, rfl⟩
      rw [w_11]; rfl
  · skip
    refine V.iconst g0 d_X7_passport_8 ?_
    refine V.iret g d_X7_passport_9 (Nat.zero_le _) (Nat.zero_le _) ⟨congrArg (fun z => some (Value.int (iI z))) ?_, rfl, rfl⟩
    rw [q_passport, if_pos c_5]

theorem d_X7_stamp_0 : Dc cX7_stamp 0 1 1 (.aload_n 0) := ⟨by decide +kernel, rfl⟩
theorem d_X7_stamp_1 : Dc cX7_stamp 1 1 2 (.iload_n 1) := ⟨by decide +kernel, rfl⟩
theorem d_X7_stamp_2 : Dc cX7_stamp 2 3 5 (.invokevirtual 36) := ⟨by decide +kernel, rfl⟩
theorem d_X7_stamp_5 : Dj cX7_stamp 5 8 25 (.ifCond .eq) := ⟨20, by decide +kernel, rfl, by decide⟩
theorem d_X7_stamp_8 : Dc cX7_stamp 8 1 9 (.iload_n 2) := ⟨by decide +kernel, rfl⟩
theorem d_X7_stamp_9 : Dc cX7_stamp 9 1 10 (.iconst 0) := ⟨by decide +kernel, rfl⟩
theorem d_X7_stamp_10 : Dc cX7_stamp 10 1 11 (.aload_n 0) := ⟨by decide +kernel, rfl⟩
theorem d_X7_stamp_11 : Dc cX7_stamp 11 1 12 (.iload_n 1) := ⟨by decide +kernel, rfl⟩
theorem d_X7_stamp_12 : Dc cX7_stamp 12 2 14 (.bipush 8) := ⟨by decide +kernel, rfl⟩
theorem d_X7_stamp_14 : Dc cX7_stamp 14 3 17 (.invokevirtual 50) := ⟨by decide +kernel, rfl⟩
theorem d_X7_stamp_17 : Dc cX7_stamp 17 1 18 (.iconst 1) := ⟨by decide +kernel, rfl⟩
theorem d_X7_stamp_18 : Dc cX7_stamp 18 1 19 .isub := ⟨by decide +kernel, rfl⟩
theorem d_X7_stamp_19 : Dc cX7_stamp 19 3 22 (.invokestatic 32) := ⟨by decide +kernel, rfl⟩
theorem d_X7_stamp_22 : Dj cX7_stamp 22 25 27 (.ifCond .ne) := ⟨5, by decide +kernel, rfl, by decide⟩
theorem d_X7_stamp_25 : Dc cX7_stamp 25 1 26 (.iconst (-1)) := ⟨by decide +kernel, rfl⟩
theorem d_X7_stamp_26 : decode cX7_stamp 26 = .ok (.ireturn, 1) := by decide +kernel
theorem d_X7_stamp_27 : Dc cX7_stamp 27 1 28 (.iload_n 3) := ⟨by decide +kernel, rfl⟩
theorem d_X7_stamp_28 : decode cX7_stamp 28 = .ok (.tableswitch 84 0 4 #[36, 43, 50, 65, 80], 36) := by decide +kernel
theorem d_X7_stamp_64 : Dc cX7_stamp 64 1 65 (.aload_n 0) := ⟨by decide +kernel, rfl⟩
theorem d_X7_stamp_65 : Dc cX7_stamp 65 1 66 (.iload_n 1) := ⟨by decide +kernel, rfl⟩
theorem d_X7_stamp_66 : Dc cX7_stamp 66 1 67 (.iload_n 2) := ⟨by decide +kernel, rfl⟩
theorem d_X7_stamp_67 : Dc cX7_stamp 67 3 70 (.invokevirtual 66) := ⟨by decide +kernel, rfl⟩
theorem d_X7_stamp_70 : decode cX7_stamp 70 = .ok (.ireturn, 1) := by decide +kernel
theorem d_X7_stamp_71 : Dc cX7_stamp 71 1 72 (.aload_n 0) := ⟨by decide +kernel, rfl⟩
theorem d_X7_stamp_72 : Dc cX7_stamp 72 1 73 (.iload_n 1) := ⟨by decide +kernel, rfl⟩
theorem d_X7_stamp_73 : Dc cX7_stamp 73 1 74 (.iload_n 2) := ⟨by decide +kernel, rfl⟩
theorem d_X7_stamp_74 : Dc cX7_stamp 74 3 77 (.invokevirtual 57) := ⟨by decide +kernel, rfl⟩
theorem d_X7_stamp_77 : decode cX7_stamp 77 = .ok (.ireturn, 1) := by decide +kernel
theorem d_X7_stamp_78 : Dc cX7_stamp 78 1 79 (.aload_n 0) := ⟨by decide +kernel, rfl⟩
theorem d_X7_stamp_79 : Dc cX7_stamp 79 1 80 (.iload_n 1) := ⟨by decide +kernel, rfl⟩
theorem d_X7_stamp_80 : Dc cX7_stamp 80 1 81 (.iload_n 2) := ⟨by decide +kernel, rfl⟩
theorem d_X7_stamp_81 : Dc cX7_stamp 81 3 84 (.invokevirtual 53) := ⟨by decide +kernel, rfl⟩
theorem d_X7_stamp_84 : Dj cX7_stamp 84 87 91 (.ifCond .eq) := ⟨7, by decide +kernel, rfl, by decide⟩
theorem d_X7_stamp_87 : Dc cX7_stamp 87 1 88 (.iconst 1) := ⟨by decide +kernel, rfl⟩
theorem d_X7_stamp_88 : Dj cX7_stamp 88 91 92 .goto := ⟨4, by decide +kernel, rfl, by decide⟩
theorem d_X7_stamp_91 : Dc cX7_stamp 91 1 92 (.iconst 0) := ⟨by decide +kernel, rfl⟩
theorem d_X7_stamp_92 : decode cX7_stamp 92 = .ok (.ireturn, 1) := by decide +kernel
theorem d_X7_stamp_93 : Dc cX7_stamp 93 1 94 (.aload_n 0) := ⟨by decide +kernel, rfl⟩
theorem d_X7_stamp_94 : Dc cX7_stamp 94 1 95 (.iload_n 1) := ⟨by decide +kernel, rfl⟩
theorem d_X7_stamp_95 : Dc cX7_stamp 95 1 96 (.iload_n 2) := ⟨by decide +kernel, rfl⟩
theorem d_X7_stamp_96 : Dc cX7_stamp 96 3 99 (.invokevirtual 63) := ⟨by decide +kernel, rfl⟩
theorem d_X7_stamp_99 : Dj cX7_stamp 99 102 106 (.ifCond .eq) := ⟨7, by decide +kernel, rfl, by decide⟩
theorem d_X7_stamp_102 : Dc cX7_stamp 102 1 103 (.iconst 1) := ⟨by decide +kernel, rfl⟩
theorem d_X7_stamp_103 : Dj cX7_stamp 103 106 107 .goto := ⟨4, by decide +kernel, rfl, by decide⟩
theorem d_X7_stamp_106 : Dc cX7_stamp 106 1 107 (.iconst 0) := ⟨by decide +kernel, rfl⟩
theorem d_X7_stamp_107 : decode cX7_stamp 107 = .ok (.ireturn, 1) := by decide +kernel
theorem d_X7_stamp_108 : Dc cX7_stamp 108 1 109 (.iload_n 2) := ⟨by decide +kernel, rfl⟩
theorem d_X7_stamp_109 : Dc cX7_stamp 109 1 110 (.iconst 4) := ⟨by decide +kernel, rfl⟩
theorem d_X7_stamp_110 : Dc cX7_stamp 110 1 111 .idiv := ⟨by decide +kernel, rfl⟩
theorem d_X7_stamp_111 : decode cX7_stamp 111 = .ok (.ireturn, 1) := by decide +kernel
theorem d_X7_stamp_112 : Dc cX7_stamp 112 2 114 (.bipush (-2)) := ⟨by decide +kernel, rfl⟩
theorem d_X7_stamp_114 : decode cX7_stamp 114 = .ok (.ireturn, 1) := by decide +kernel
set_option maxHeartbeats 4000000 in
set_option maxRecDepth 20000 in
theorem c_X7_stamp {E : Ev} {n : Nat} {M : Mem} {m : Nat} {s : Int → Int} (hs : MS E M m s) (hO : Ok s) {p r w : Int} (h1 : rg p) (h2 : rg r) (h3 : rg w) : MT E yX7_stamp cX7_stamp 4 (some .int) 6 0 0 [.ref m, .int (iI p), .int (iI r), .int (iI w)] n M (PF (some (.int (iI (q_stamp s p r w)))) n M) := by
  refine MT.of (by decide) rfl (Nat.le_of_ble_eq_true rfl) ?_
  intro X g
  have g0 := g.1
  show V E X 0 0 n M 0 [some (.ref m), some (.int (iI p)), some (.int (iI r)), some (.int (iI w))] []
  obtain ⟨⟨fr, hm⟩, ha⟩ := id hs
  have hmn := hO.many
  refine V.al0 g0 d_X7_stamp_0 ?_
  refine V.il1 g0 d_X7_stamp_1 ?_
  refine V.callVp g0 (c_X7_isPassport hs h1 hmn) ky_X7_isPassport ki_X7_isPassport ks2_X7_isPassport lk_X7_36 (by assumption) rfl rfl (Nat.le_of_ble_eq_true rfl) ⟨Nat.zero_le _, Nat.zero_le _⟩ rfl rfl (Nat.le_of_ble_eq_true rfl) d_X7_stamp_2 ?_
  refine V.ifeqB g0 d_X7_stamp_5 (fun c_5 => ?_) (fun c_5 => ?_)
  · skip
    have hno : ¬ ((0 ≤ p ∧ p ≤ s 619 - 1) ∧ (0 ≤ r ∧ r ≤ s (103 * p + 8) - 1)) := fun h => c_5 h.1
    refine V.iconst g0 d_X7_stamp_25 ?_
    refine V.iret g d_X7_stamp_26 (Nat.zero_le _) (Nat.zero_le _) ⟨congrArg (fun z => some (Value.int (iI z))) ?_, rfl, rfl⟩
    rw [q_stamp, if_pos hno]
  · skip
    have hk := hO.at c_5.1 (by omega)
    have hp : 0 ≤ p ∧ p < 6 := by omega
    have hst := hk.stm
    refine V.il2 g0 d_X7_stamp_8 ?_
    refine V.iconst g0 d_X7_stamp_9 ?_
    refine V.al0 g0 d_X7_stamp_10 ?_
    refine V.il1 g0 d_X7_stamp_11 ?_
    refine V.bipush g0 d_X7_stamp_12 (by decide) ?_
    refine V.callVp g0 (c_X7_get hs (by omega)) ky_X7_get ki_X7_get ks2_X7_get lk_X7_50 (by assumption) rfl rfl (Nat.le_of_ble_eq_true rfl) ⟨Nat.zero_le _, Nat.zero_le _⟩ rfl rfl (Nat.le_of_ble_eq_true rfl) d_X7_stamp_14 ?_
    refine V.iconst g0 d_X7_stamp_17 ?_
    refine V.isub g0 d_X7_stamp_18 ?_
    refine V.callSp g0 (c_X7_in h2 (by decide) (by omega)) ky_X7_in ks_X7_in lk_X7_32 (Nat.le_of_ble_eq_true rfl) ⟨Nat.zero_le _, Nat.zero_le _⟩ rfl rfl (Nat.le_of_ble_eq_true rfl) d_X7_stamp_19 ?_
    refine V.ifneB g0 d_X7_stamp_22 (fun c_22 => ?_) (fun c_22 => ?_)
    · skip
      rw [q_stamp, if_neg (fun h => h ⟨c_5, c_22⟩)] at g
      have hr : 0 ≤ r ∧ r < s (103 * p + 8) := by omega
      refine V.il3 g0 d_X7_stamp_27 ?_
      rcases (show (w < 0 ∨ 4 < w) ∨ w = 0 ∨ w = 1 ∨ w = 2 ∨ w = 3 ∨ w = 4 by omega) with w_28 | w_28 | w_28 | w_28 | w_28 | w_28
      · refine V.tout (q := 0) (t := 112) g0 d_X7_stamp_28 (by omega) w_28 (by decide) ?_
        refine V.bipush g0 d_X7_stamp_112 (by decide) ?_
        refine V.iret g d_X7_stamp_114 (Nat.zero_le _) (Nat.zero_le _) ⟨congrArg (fun z => some (Value.int (iI z))) ?_, rfl, rfl⟩
        rw [stampF, if_neg (by omega), if_neg (by omega), if_neg (by omega), if_neg (by omega), if_neg (by omega)]
      · refine V.tin (q := 0) (off := 36) (t := 64) g0 d_X7_stamp_28 (by omega) (by omega) (by omega) (by rw [w_28]; rfl) (by decide) ?_
        refine V.al0 g0 d_X7_stamp_64 ?_
        refine V.il1 g0 d_X7_stamp_65 ?_
        refine V.il2 g0 d_X7_stamp_66 ?_
        refine V.callVp g0 (c_X7_dayOf hs hk hp hr) ky_X7_dayOf ki_X7_dayOf ks2_X7_dayOf lk_X7_66 (by assumption) rfl rfl (Nat.le_of_ble_eq_true rfl) ⟨Nat.zero_le _, Nat.zero_le _⟩ rfl rfl (Nat.le_of_ble_eq_true rfl) d_X7_stamp_67 ?_
        refine V.iret g d_X7_stamp_70 (Nat.zero_le _) (Nat.zero_le _) ⟨congrArg (fun z => some (Value.int (iI z))) ?_, rfl, rfl⟩
        rw [w_28]; rfl
      · refine V.tin (q := 0) (off := 43) (t := 71) g0 d_X7_stamp_28 (by omega) (by omega) (by omega) (by rw [w_28]; rfl) (by decide) ?_
        refine V.al0 g0 d_X7_stamp_71 ?_
        refine V.il1 g0 d_X7_stamp_72 ?_
        refine V.il2 g0 d_X7_stamp_73 ?_
        refine V.callVp g0 (c_X7_countryOf hs hk hp hr) ky_X7_countryOf ki_X7_countryOf ks2_X7_countryOf lk_X7_57 (by assumption) rfl rfl (Nat.le_of_ble_eq_true rfl) ⟨Nat.zero_le _, Nat.zero_le _⟩ rfl rfl (Nat.le_of_ble_eq_true rfl) d_X7_stamp_74 ?_
        refine V.iret g d_X7_stamp_77 (Nat.zero_le _) (Nat.zero_le _) ⟨congrArg (fun z => some (Value.int (iI z))) ?_, rfl, rfl⟩
        rw [w_28]; rfl
      · refine V.tin (q := 0) (off := 50) (t := 78) g0 d_X7_stamp_28 (by omega) (by omega) (by omega) (by rw [w_28]; rfl) (by decide) ?_
        refine V.al0 g0 d_X7_stamp_78 ?_
        refine V.il1 g0 d_X7_stamp_79 ?_
        refine V.il2 g0 d_X7_stamp_80 ?_
        refine V.callVp g0 (c_X7_isEntry hs hk hp hr) ky_X7_isEntry ki_X7_isEntry ks2_X7_isEntry lk_X7_53 (by assumption) rfl rfl (Nat.le_of_ble_eq_true rfl) ⟨Nat.zero_le _, Nat.zero_le _⟩ rfl rfl (Nat.le_of_ble_eq_true rfl) d_X7_stamp_81 ?_
        refine V.ifeqB g0 d_X7_stamp_84 (fun c_84 => ?_) (fun c_84 => ?_)
        · skip
          refine V.iconst g0 d_X7_stamp_91 ?_
          refine V.iret g d_X7_stamp_92 (Nat.zero_le _) (Nat.zero_le _) ⟨congrArg (fun z => some (Value.int (iI z))) ?_, rfl, rfl⟩
          rw [w_28]; exact (bI_f c_84).symm
        · skip
          refine V.iconst g0 d_X7_stamp_87 ?_
          refine V.goto g0 d_X7_stamp_88 ?_
          refine V.iret g d_X7_stamp_92 (Nat.zero_le _) (Nat.zero_le _) ⟨congrArg (fun z => some (Value.int (iI z))) ?_, rfl, rfl⟩
          rw [w_28]; exact (bI_t c_84).symm
      · refine V.tin (q := 0) (off := 65) (t := 93) g0 d_X7_stamp_28 (by omega) (by omega) (by omega) (by rw [w_28]; rfl) (by decide) ?_
        refine V.al0 g0 d_X7_stamp_93 ?_
        refine V.il1 g0 d_X7_stamp_94 ?_
        refine V.il2 g0 d_X7_stamp_95 ?_
        refine V.callVp g0 (c_X7_isGap hs hk hp hr) ky_X7_isGap ki_X7_isGap ks2_X7_isGap lk_X7_63 (by assumption) rfl rfl (Nat.le_of_ble_eq_true rfl) ⟨Nat.zero_le _, Nat.zero_le _⟩ rfl rfl (Nat.le_of_ble_eq_true rfl) d_X7_stamp_96 ?_
        refine V.ifeqB g0 d_X7_stamp_99 (fun c_99 => ?_) (fun c_99 => ?_)
        · skip
          refine V.iconst g0 d_X7_stamp_106 ?_
          refine V.iret g d_X7_stamp_107 (Nat.zero_le _) (Nat.zero_le _) ⟨congrArg (fun z => some (Value.int (iI z))) ?_, rfl, rfl⟩
          rw [w_28]; exact (bI_f c_99).symm
        · skip
          refine V.iconst g0 d_X7_stamp_102 ?_
          refine V.goto g0 d_X7_stamp_103 ?_
          refine V.iret g d_X7_stamp_107 (Nat.zero_le _) (Nat.zero_le _) ⟨congrArg (fun z => some (Value.int (iI z))) ?_, rfl, rfl⟩
          rw [w_28]; exact (bI_t c_99).symm
      · refine V.tin (q := 0) (off := 80) (t := 108) g0 d_X7_stamp_28 (by omega) (by omega) (by omega) (by rw [w_28]; rfl) (by decide) ?_
        refine V.il2 g0 d_X7_stamp_108 ?_
        refine V.iconst g0 d_X7_stamp_109 ?_
        refine V.idiv g0 d_X7_stamp_110 (by omega) (by decide) ?_
        refine V.iret g d_X7_stamp_111 (Nat.zero_le _) (Nat.zero_le _) ⟨congrArg (fun z => some (Value.int (iI z))) ?_, rfl, rfl⟩
        rw [w_28]; rfl
    · skip
      have hno : ¬ ((0 ≤ p ∧ p ≤ s 619 - 1) ∧ (0 ≤ r ∧ r ≤ s (103 * p + 8) - 1)) := fun h => c_22 h.2
      refine V.iconst g0 d_X7_stamp_25 ?_
      refine V.iret g d_X7_stamp_26 (Nat.zero_le _) (Nat.zero_le _) ⟨congrArg (fun z => some (Value.int (iI z))) ?_, rfl, rfl⟩
      rw [q_stamp, if_pos hno]

theorem d_X7_visa_0 : Dc cX7_visa 0 1 1 (.aload_n 0) := ⟨by decide +kernel, rfl⟩
theorem d_X7_visa_1 : Dc cX7_visa 1 1 2 (.iload_n 1) := ⟨by decide +kernel, rfl⟩
theorem d_X7_visa_2 : Dc cX7_visa 2 1 3 (.iload_n 2) := ⟨by decide +kernel, rfl⟩
theorem d_X7_visa_3 : Dc cX7_visa 3 3 6 (.invokevirtual 101) := ⟨by decide +kernel, rfl⟩
theorem d_X7_visa_6 : Dj cX7_visa 6 9 11 (.ifCond .ne) := ⟨5, by decide +kernel, rfl, by decide⟩
theorem d_X7_visa_9 : Dc cX7_visa 9 1 10 (.iconst (-1)) := ⟨by decide +kernel, rfl⟩
theorem d_X7_visa_10 : decode cX7_visa 10 = .ok (.ireturn, 1) := by decide +kernel
theorem d_X7_visa_11 : Dc cX7_visa 11 1 12 (.iload_n 3) := ⟨by decide +kernel, rfl⟩
theorem d_X7_visa_12 : Dc cX7_visa 12 1 13 (.iconst 0) := ⟨by decide +kernel, rfl⟩
theorem d_X7_visa_13 : Dc cX7_visa 13 1 14 (.iconst 4) := ⟨by decide +kernel, rfl⟩
theorem d_X7_visa_14 : Dc cX7_visa 14 3 17 (.invokestatic 32) := ⟨by decide +kernel, rfl⟩
theorem d_X7_visa_17 : Dj cX7_visa 17 20 23 (.ifCond .ne) := ⟨6, by decide +kernel, rfl, by decide⟩
theorem d_X7_visa_20 : Dc cX7_visa 20 2 22 (.bipush (-2)) := ⟨by decide +kernel, rfl⟩
theorem d_X7_visa_22 : decode cX7_visa 22 = .ok (.ireturn, 1) := by decide +kernel
theorem d_X7_visa_23 : Dc cX7_visa 23 1 24 (.aload_n 0) := ⟨by decide +kernel, rfl⟩
theorem d_X7_visa_24 : Dc cX7_visa 24 1 25 (.iload_n 1) := ⟨by decide +kernel, rfl⟩
theorem d_X7_visa_25 : Dc cX7_visa 25 1 26 (.iload_n 2) := ⟨by decide +kernel, rfl⟩
theorem d_X7_visa_26 : Dc cX7_visa 26 3 29 (.invokevirtual 73) := ⟨by decide +kernel, rfl⟩
theorem d_X7_visa_29 : Dj cX7_visa 29 32 35 (.ifCond .ne) := ⟨6, by decide +kernel, rfl, by decide⟩
theorem d_X7_visa_32 : Dc cX7_visa 32 2 34 (.bipush (-5)) := ⟨by decide +kernel, rfl⟩
theorem d_X7_visa_34 : decode cX7_visa 34 = .ok (.ireturn, 1) := by decide +kernel
theorem d_X7_visa_35 : Dc cX7_visa 35 1 36 (.iload_n 3) := ⟨by decide +kernel, rfl⟩
theorem d_X7_visa_36 : Dc cX7_visa 36 1 37 (.iconst 3) := ⟨by decide +kernel, rfl⟩
theorem d_X7_visa_37 : Dj cX7_visa 37 40 50 (.if_icmp .ge) := ⟨13, by decide +kernel, rfl, by decide⟩
theorem d_X7_visa_40 : Dc cX7_visa 40 1 41 (.aload_n 0) := ⟨by decide +kernel, rfl⟩
theorem d_X7_visa_41 : Dc cX7_visa 41 1 42 (.iload_n 1) := ⟨by decide +kernel, rfl⟩
theorem d_X7_visa_42 : Dc cX7_visa 42 1 43 (.iload_n 2) := ⟨by decide +kernel, rfl⟩
theorem d_X7_visa_43 : Dc cX7_visa 43 1 44 (.iload_n 3) := ⟨by decide +kernel, rfl⟩
theorem d_X7_visa_44 : Dc cX7_visa 44 3 47 (.invokevirtual 69) := ⟨by decide +kernel, rfl⟩
theorem d_X7_visa_47 : Dj cX7_visa 47 50 86 .goto := ⟨39, by decide +kernel, rfl, by decide⟩
theorem d_X7_visa_50 : Dc cX7_visa 50 1 51 (.iload_n 3) := ⟨by decide +kernel, rfl⟩
theorem d_X7_visa_51 : Dc cX7_visa 51 1 52 (.iconst 3) := ⟨by decide +kernel, rfl⟩
theorem d_X7_visa_52 : Dj cX7_visa 52 55 64 (.if_icmp .ne) := ⟨12, by decide +kernel, rfl, by decide⟩
theorem d_X7_visa_55 : Dc cX7_visa 55 1 56 (.aload_n 0) := ⟨by decide +kernel, rfl⟩
theorem d_X7_visa_56 : Dc cX7_visa 56 1 57 (.iload_n 1) := ⟨by decide +kernel, rfl⟩
theorem d_X7_visa_57 : Dc cX7_visa 57 1 58 (.iload_n 2) := ⟨by decide +kernel, rfl⟩
theorem d_X7_visa_58 : Dc cX7_visa 58 3 61 (.invokevirtual 89) := ⟨by decide +kernel, rfl⟩
theorem d_X7_visa_61 : Dj cX7_visa 61 64 86 .goto := ⟨25, by decide +kernel, rfl, by decide⟩
theorem d_X7_visa_64 : Dc cX7_visa 64 1 65 (.aload_n 0) := ⟨by decide +kernel, rfl⟩
theorem d_X7_visa_65 : Dc cX7_visa 65 1 66 (.iload_n 1) := ⟨by decide +kernel, rfl⟩
theorem d_X7_visa_66 : Dc cX7_visa 66 1 67 (.iload_n 2) := ⟨by decide +kernel, rfl⟩
theorem d_X7_visa_67 : Dc cX7_visa 67 1 68 (.aload_n 0) := ⟨by decide +kernel, rfl⟩
theorem d_X7_visa_68 : Dc cX7_visa 68 3 71 (.getfield 7) := ⟨by decide +kernel, rfl⟩
theorem d_X7_visa_71 : Dc cX7_visa 71 3 74 (.sipush 618) := ⟨by decide +kernel, rfl⟩
theorem d_X7_visa_74 : Dc cX7_visa 74 1 75 .iaload := ⟨by decide +kernel, rfl⟩
theorem d_X7_visa_75 : Dc cX7_visa 75 3 78 (.invokevirtual 86) := ⟨by decide +kernel, rfl⟩
theorem d_X7_visa_78 : Dj cX7_visa 78 81 85 (.ifCond .eq) := ⟨7, by decide +kernel, rfl, by decide⟩
theorem d_X7_visa_81 : Dc cX7_visa 81 1 82 (.iconst 1) := ⟨by decide +kernel, rfl⟩
theorem d_X7_visa_82 : Dj cX7_visa 82 85 86 .goto := ⟨4, by decide +kernel, rfl, by decide⟩
theorem d_X7_visa_85 : Dc cX7_visa 85 1 86 (.iconst 0) := ⟨by decide +kernel, rfl⟩
theorem d_X7_visa_86 : decode cX7_visa 86 = .ok (.ireturn, 1) := by decide +kernel
set_option maxHeartbeats 4000000 in
set_option maxRecDepth 20000 in
theorem c_X7_visa {E : Ev} {n : Nat} {M : Mem} {m : Nat} {s : Int → Int} (hs : MS E M m s) (hO : Ok s) {p c w : Int} (h1 : rg p) (h2 : rg c) (h3 : rg w) : MT E yX7_visa cX7_visa 4 (some .int) 8 0 0 [.ref m, .int (iI p), .int (iI c), .int (iI w)] n M (PF (some (.int (iI (q_visa s p c w)))) n M) := by
  refine MT.of (by decide) rfl (Nat.le_of_ble_eq_true rfl) ?_
  intro X g
  have g0 := g.1
  show V E X 0 0 n M 0 [some (.ref m), some (.int (iI p)), some (.int (iI c)), some (.int (iI w))] []
  obtain ⟨⟨fr, hm⟩, ha⟩ := id hs
  have hmn := hO.many
  refine V.al0 g0 d_X7_visa_0 ?_
  refine V.il1 g0 d_X7_visa_1 ?_
  refine V.il2 g0 d_X7_visa_2 ?_
  refine V.callVp g0 (c_X7_areThere hs h1 h2 hmn) ky_X7_areThere ki_X7_areThere ks2_X7_areThere lk_X7_101 (by assumption) rfl rfl (Nat.le_of_ble_eq_true rfl) ⟨Nat.zero_le _, Nat.zero_le _⟩ rfl rfl (Nat.le_of_ble_eq_true rfl) d_X7_visa_3 ?_
  refine V.ifneB g0 d_X7_visa_6 (fun c_6 => ?_) (fun c_6 => ?_)
  · skip
    have hk := hO.at c_6.1.1 (by omega)
    have hp : 0 ≤ p ∧ p < 6 := by omega
    have hc : 0 ≤ c ∧ c < 6 := by omega
    have hv := hk.vis hc.1 hc.2
    have hbg := hk.bgo
    have hu := usedOn_b2 hk hc.1 hc.2 (s 618)
    refine V.il3 g0 d_X7_visa_11 ?_
    refine V.iconst g0 d_X7_visa_12 ?_
    refine V.iconst g0 d_X7_visa_13 ?_
    refine V.callSp g0 (c_X7_in h3 (by decide) (by decide)) ky_X7_in ks_X7_in lk_X7_32 (Nat.le_of_ble_eq_true rfl) ⟨Nat.zero_le _, Nat.zero_le _⟩ rfl rfl (Nat.le_of_ble_eq_true rfl) d_X7_visa_14 ?_
    refine V.ifneB g0 d_X7_visa_17 (fun c_17 => ?_) (fun c_17 => ?_)
    · skip
      refine V.al0 g0 d_X7_visa_23 ?_
      refine V.il1 g0 d_X7_visa_24 ?_
      refine V.il2 g0 d_X7_visa_25 ?_
      refine V.callVp g0 (c_X7_hasVisa hs hk hp hc) ky_X7_hasVisa ki_X7_hasVisa ks2_X7_hasVisa lk_X7_73 (by assumption) rfl rfl (Nat.le_of_ble_eq_true rfl) ⟨Nat.zero_le _, Nat.zero_le _⟩ rfl rfl (Nat.le_of_ble_eq_true rfl) d_X7_visa_26 ?_
      refine V.ifneB g0 d_X7_visa_29 (fun c_29 => ?_) (fun c_29 => ?_)
      · skip
        refine V.il3 g0 d_X7_visa_35 ?_
        refine V.iconst g0 d_X7_visa_36 ?_
        refine V.icmpge g0 d_X7_visa_37 (by omega) (fun c_37 => ?_) (fun c_37 => ?_)
        · skip
          refine V.il3 g0 d_X7_visa_50 ?_
          refine V.iconst g0 d_X7_visa_51 ?_
          refine V.icmpne g0 d_X7_visa_52 (by omega) (fun c_52 => ?_) (fun c_52 => ?_)
          · skip
            refine V.al0 g0 d_X7_visa_64 ?_
            refine V.il1 g0 d_X7_visa_65 ?_
            refine V.il2 g0 d_X7_visa_66 ?_
            refine V.al0 g0 d_X7_visa_67 ?_
            refine V.getf g0 d_X7_visa_68 fl_X7_7 (by assumption) (by rfl) ?_
            refine V.sipush g0 d_X7_visa_71 (by decide) ?_
            refine V.iald g0 d_X7_visa_74 (by assumption) (by omega) (by decide) ?_
            refine V.callVp g0 (c_X7_isValidOn hs hk hp hc (by omega)) ky_X7_isValidOn ki_X7_isValidOn ks2_X7_isValidOn lk_X7_86 (by assumption) rfl rfl (Nat.le_of_ble_eq_true rfl) ⟨Nat.zero_le _, Nat.zero_le _⟩ rfl rfl (Nat.le_of_ble_eq_true rfl) d_X7_visa_75 ?_
            refine V.ifeqB g0 d_X7_visa_78 (fun c_78 => ?_) (fun c_78 => ?_)
            · skip
              refine V.iconst g0 d_X7_visa_85 ?_
              refine V.iret g d_X7_visa_86 (Nat.zero_le _) (Nat.zero_le _) ⟨congrArg (fun z => some (Value.int (iI z))) ?_, rfl, rfl⟩
              rw [q_visa, if_neg (fun h => h c_6), if_neg (fun h => h c_17), if_neg (fun h => h c_29), if_neg (by omega), if_neg (by omega), bI_f c_78]
            · skip
              refine V.iconst g0 d_X7_visa_81 ?_
              refine V.goto g0 d_X7_visa_82 ?_
              refine V.iret g d_X7_visa_86 (Nat.zero_le _) (Nat.zero_le _) ⟨congrArg (fun z => some (Value.int (iI z))) ?_, rfl, rfl⟩
              rw [q_visa, if_neg (fun h => h c_6), if_neg (fun h => h c_17), if_neg (fun h => h c_29), if_neg (by omega), if_neg (by omega), bI_t c_78]
          · skip
            refine V.al0 g0 d_X7_visa_55 ?_
            refine V.il1 g0 d_X7_visa_56 ?_
            refine V.il2 g0 d_X7_visa_57 ?_
            refine V.callVp g0 (c_X7_used hs hk hp hc) ky_X7_used ki_X7_used ks2_X7_used lk_X7_89 (by assumption) rfl rfl (Nat.le_of_ble_eq_true rfl) ⟨Nat.zero_le _, Nat.zero_le _⟩ rfl rfl (Nat.le_of_ble_eq_true rfl) d_X7_visa_58 ?_
            refine V.goto g0 d_X7_visa_61 ?_
            refine V.iret g d_X7_visa_86 (Nat.zero_le _) (Nat.zero_le _) ⟨congrArg (fun z => some (Value.int (iI z))) ?_, rfl, rfl⟩
            rw [q_visa, if_neg (fun h => h c_6), if_neg (fun h => h c_17), if_neg (fun h => h c_29), if_neg (by omega), if_pos (by omega)]
        · skip
          refine V.al0 g0 d_X7_visa_40 ?_
          refine V.il1 g0 d_X7_visa_41 ?_
          refine V.il2 g0 d_X7_visa_42 ?_
          refine V.il3 g0 d_X7_visa_43 ?_
          refine V.callVp g0 (c_X7_ofVisa hs hp hc (by omega)) ky_X7_ofVisa ki_X7_ofVisa ks2_X7_ofVisa lk_X7_69 (by assumption) rfl rfl (Nat.le_of_ble_eq_true rfl) ⟨Nat.zero_le _, Nat.zero_le _⟩ rfl rfl (Nat.le_of_ble_eq_true rfl) d_X7_visa_44 ?_
          refine V.goto g0 d_X7_visa_47 ?_
          refine V.iret g d_X7_visa_86 (Nat.zero_le _) (Nat.zero_le _) ⟨congrArg (fun z => some (Value.int (iI z))) ?_, rfl, rfl⟩
          rw [q_visa, if_neg (fun h => h c_6), if_neg (fun h => h c_17), if_neg (fun h => h c_29), if_pos (by omega)]
      · skip
        refine V.bipush g0 d_X7_visa_32 (by decide) ?_
        refine V.iret g d_X7_visa_34 (Nat.zero_le _) (Nat.zero_le _) ⟨congrArg (fun z => some (Value.int (iI z))) ?_, rfl, rfl⟩
        rw [q_visa, if_neg (fun h => h c_6), if_neg (fun h => h c_17), if_pos c_29]
    · skip
      refine V.bipush g0 d_X7_visa_20 (by decide) ?_
      refine V.iret g d_X7_visa_22 (Nat.zero_le _) (Nat.zero_le _) ⟨congrArg (fun z => some (Value.int (iI z))) ?_, rfl, rfl⟩
      rw [q_visa, if_neg (fun h => h c_6), if_pos c_17]
  · skip
    refine V.iconst g0 d_X7_visa_9 ?_
    refine V.iret g d_X7_visa_10 (Nat.zero_le _) (Nat.zero_le _) ⟨congrArg (fun z => some (Value.int (iI z))) ?_, rfl, rfl⟩
    rw [q_visa, if_pos c_6]

theorem d_X7_reason_0 : Dc cX7_reason 0 1 1 (.aload_n 0) := ⟨by decide +kernel, rfl⟩
theorem d_X7_reason_1 : Dc cX7_reason 1 1 2 (.iload_n 1) := ⟨by decide +kernel, rfl⟩
theorem d_X7_reason_2 : Dc cX7_reason 2 1 3 (.iload_n 2) := ⟨by decide +kernel, rfl⟩
theorem d_X7_reason_3 : Dc cX7_reason 3 3 6 (.invokevirtual 101) := ⟨by decide +kernel, rfl⟩
theorem d_X7_reason_6 : Dj cX7_reason 6 9 19 (.ifCond .eq) := ⟨13, by decide +kernel, rfl, by decide⟩
theorem d_X7_reason_9 : Dc cX7_reason 9 1 10 (.aload_n 0) := ⟨by decide +kernel, rfl⟩
theorem d_X7_reason_10 : Dc cX7_reason 10 1 11 (.iload_n 1) := ⟨by decide +kernel, rfl⟩
theorem d_X7_reason_11 : Dc cX7_reason 11 1 12 (.iload_n 2) := ⟨by decide +kernel, rfl⟩
theorem d_X7_reason_12 : Dc cX7_reason 12 1 13 (.iconst 2) := ⟨by decide +kernel, rfl⟩
theorem d_X7_reason_13 : Dc cX7_reason 13 3 16 (.invokevirtual 104) := ⟨by decide +kernel, rfl⟩
theorem d_X7_reason_16 : Dj cX7_reason 16 19 20 .goto := ⟨4, by decide +kernel, rfl, by decide⟩
theorem d_X7_reason_19 : Dc cX7_reason 19 1 20 (.iconst (-1)) := ⟨by decide +kernel, rfl⟩
theorem d_X7_reason_20 : decode cX7_reason 20 = .ok (.ireturn, 1) := by decide +kernel
set_option maxHeartbeats 4000000 in
set_option maxRecDepth 20000 in
theorem c_X7_reason {E : Ev} {n : Nat} {M : Mem} {m : Nat} {s : Int → Int} (hs : MS E M m s) (hO : Ok s) {p c : Int} (h1 : rg p) (h2 : rg c) : MT E yX7_reason cX7_reason 3 (some .int) 10 0 0 [.ref m, .int (iI p), .int (iI c)] n M (PF (some (.int (iI (q_reason s p c)))) n M) := by
  refine MT.of (by decide) rfl (Nat.le_of_ble_eq_true rfl) ?_
  intro X g
  have g0 := g.1
  show V E X 0 0 n M 0 [some (.ref m), some (.int (iI p)), some (.int (iI c))] []
  obtain ⟨⟨fr, hm⟩, ha⟩ := id hs
  have hmn := hO.many
  refine V.al0 g0 d_X7_reason_0 ?_
  refine V.il1 g0 d_X7_reason_1 ?_
  refine V.il2 g0 d_X7_reason_2 ?_
  refine V.callVp g0 (c_X7_areThere hs h1 h2 hmn) ky_X7_areThere ki_X7_areThere ks2_X7_areThere lk_X7_101 (by assumption) rfl rfl (Nat.le_of_ble_eq_true rfl) ⟨Nat.zero_le _, Nat.zero_le _⟩ rfl rfl (Nat.le_of_ble_eq_true rfl) d_X7_reason_3 ?_
  refine V.ifeqB g0 d_X7_reason_6 (fun c_6 => ?_) (fun c_6 => ?_)
  · skip
    refine V.iconst g0 d_X7_reason_19 ?_
    refine V.iret g d_X7_reason_20 (Nat.zero_le _) (Nat.zero_le _) ⟨congrArg (fun z => some (Value.int (iI z))) ?_, rfl, rfl⟩
    rw [q_reason, if_neg c_6]
  · skip
    refine V.al0 g0 d_X7_reason_9 ?_
    refine V.il1 g0 d_X7_reason_10 ?_
    refine V.il2 g0 d_X7_reason_11 ?_
    refine V.iconst g0 d_X7_reason_12 ?_
    refine V.callVp g0 (c_X7_hindrance hs (hO.at c_6.1.1 (by omega)) (by omega) (by omega) (by decide) hO.clo) ky_X7_hindrance ki_X7_hindrance ks2_X7_hindrance lk_X7_104 (by assumption) rfl rfl (Nat.le_of_ble_eq_true rfl) ⟨Nat.zero_le _, Nat.zero_le _⟩ rfl rfl (Nat.le_of_ble_eq_true rfl) d_X7_reason_13 ?_
    refine V.goto g0 d_X7_reason_16 ?_
    refine V.iret g d_X7_reason_20 (Nat.zero_le _) (Nat.zero_le _) ⟨congrArg (fun z => some (Value.int (iI z))) ?_, rfl, rfl⟩
    rw [q_reason, if_pos c_6]

theorem d_X7_stay_0 : Dc cX7_stay 0 1 1 (.aload_n 0) := ⟨by decide +kernel, rfl⟩
theorem d_X7_stay_1 : Dc cX7_stay 1 1 2 (.iload_n 1) := ⟨by decide +kernel, rfl⟩
theorem d_X7_stay_2 : Dc cX7_stay 2 1 3 (.iload_n 2) := ⟨by decide +kernel, rfl⟩
theorem d_X7_stay_3 : Dc cX7_stay 3 3 6 (.invokevirtual 101) := ⟨by decide +kernel, rfl⟩
theorem d_X7_stay_6 : Dj cX7_stay 6 9 11 (.ifCond .ne) := ⟨5, by decide +kernel, rfl, by decide⟩
theorem d_X7_stay_9 : Dc cX7_stay 9 1 10 (.iconst (-1)) := ⟨by decide +kernel, rfl⟩
theorem d_X7_stay_10 : decode cX7_stay 10 = .ok (.ireturn, 1) := by decide +kernel
theorem d_X7_stay_11 : Dc cX7_stay 11 1 12 (.iload_n 3) := ⟨by decide +kernel, rfl⟩
theorem d_X7_stay_12 : Dc cX7_stay 12 2 14 (.iload 4) := ⟨by decide +kernel, rfl⟩
theorem d_X7_stay_14 : Dc cX7_stay 14 3 17 (.invokestatic 114) := ⟨by decide +kernel, rfl⟩
theorem d_X7_stay_17 : Dj cX7_stay 17 20 23 (.ifCond .ne) := ⟨6, by decide +kernel, rfl, by decide⟩
theorem d_X7_stay_20 : Dc cX7_stay 20 2 22 (.bipush (-2)) := ⟨by decide +kernel, rfl⟩
theorem d_X7_stay_22 : decode cX7_stay 22 = .ok (.ireturn, 1) := by decide +kernel
theorem d_X7_stay_23 : Dc cX7_stay 23 2 25 (.iload 5) := ⟨by decide +kernel, rfl⟩
theorem d_X7_stay_25 : Dj cX7_stay 25 28 46 (.ifCond .eq) := ⟨21, by decide +kernel, rfl, by decide⟩
theorem d_X7_stay_28 : Dc cX7_stay 28 1 29 (.aload_n 0) := ⟨by decide +kernel, rfl⟩
theorem d_X7_stay_29 : Dc cX7_stay 29 1 30 (.iload_n 1) := ⟨by decide +kernel, rfl⟩
theorem d_X7_stay_30 : Dc cX7_stay 30 1 31 (.iload_n 2) := ⟨by decide +kernel, rfl⟩
theorem d_X7_stay_31 : Dc cX7_stay 31 1 32 (.iload_n 3) := ⟨by decide +kernel, rfl⟩
theorem d_X7_stay_32 : Dc cX7_stay 32 2 34 (.iload 4) := ⟨by decide +kernel, rfl⟩
theorem d_X7_stay_34 : Dc cX7_stay 34 1 35 (.aload_n 0) := ⟨by decide +kernel, rfl⟩
theorem d_X7_stay_35 : Dc cX7_stay 35 3 38 (.getfield 7) := ⟨by decide +kernel, rfl⟩
theorem d_X7_stay_38 : Dc cX7_stay 38 3 41 (.sipush 618) := ⟨by decide +kernel, rfl⟩
theorem d_X7_stay_41 : Dc cX7_stay 41 1 42 .iaload := ⟨by decide +kernel, rfl⟩
theorem d_X7_stay_42 : Dc cX7_stay 42 3 45 (.invokevirtual 79) := ⟨by decide +kernel, rfl⟩
theorem d_X7_stay_45 : decode cX7_stay 45 = .ok (.ireturn, 1) := by decide +kernel
theorem d_X7_stay_46 : Dc cX7_stay 46 1 47 (.iconst 0) := ⟨by decide +kernel, rfl⟩
theorem d_X7_stay_47 : Dc cX7_stay 47 2 49 (.istore 6) := ⟨by decide +kernel, rfl⟩
theorem d_X7_stay_49 : Dc cX7_stay 49 1 50 (.iload_n 3) := ⟨by decide +kernel, rfl⟩
theorem d_X7_stay_50 : Dc cX7_stay 50 2 52 (.istore 7) := ⟨by decide +kernel, rfl⟩
theorem d_X7_stay_52 : Dc cX7_stay 52 2 54 (.iload 7) := ⟨by decide +kernel, rfl⟩
theorem d_X7_stay_54 : Dc cX7_stay 54 2 56 (.iload 4) := ⟨by decide +kernel, rfl⟩
theorem d_X7_stay_56 : Dj cX7_stay 56 59 99 (.if_icmp .gt) := ⟨43, by decide +kernel, rfl, by decide⟩
theorem d_X7_stay_59 : Dc cX7_stay 59 2 61 (.iload 7) := ⟨by decide +kernel, rfl⟩
theorem d_X7_stay_61 : Dc cX7_stay 61 1 62 (.aload_n 0) := ⟨by decide +kernel, rfl⟩
theorem d_X7_stay_62 : Dc cX7_stay 62 3 65 (.getfield 7) := ⟨by decide +kernel, rfl⟩
theorem d_X7_stay_65 : Dc cX7_stay 65 3 68 (.sipush 618) := ⟨by decide +kernel, rfl⟩
theorem d_X7_stay_68 : Dc cX7_stay 68 1 69 .iaload := ⟨by decide +kernel, rfl⟩
theorem d_X7_stay_69 : Dj cX7_stay 69 72 99 (.if_icmp .ge) := ⟨30, by decide +kernel, rfl, by decide⟩
theorem d_X7_stay_72 : Dc cX7_stay 72 2 74 (.iload 6) := ⟨by decide +kernel, rfl⟩
theorem d_X7_stay_74 : Dc cX7_stay 74 1 75 (.aload_n 0) := ⟨by decide +kernel, rfl⟩
theorem d_X7_stay_75 : Dc cX7_stay 75 1 76 (.iload_n 1) := ⟨by decide +kernel, rfl⟩
theorem d_X7_stay_76 : Dc cX7_stay 76 2 78 (.iload 7) := ⟨by decide +kernel, rfl⟩
theorem d_X7_stay_78 : Dc cX7_stay 78 3 81 (.invokevirtual 222) := ⟨by decide +kernel, rfl⟩
theorem d_X7_stay_81 : Dc cX7_stay 81 1 82 (.iload_n 2) := ⟨by decide +kernel, rfl⟩
theorem d_X7_stay_82 : Dj cX7_stay 82 85 89 (.if_icmp .ne) := ⟨7, by decide +kernel, rfl, by decide⟩
theorem d_X7_stay_85 : Dc cX7_stay 85 1 86 (.iconst 1) := ⟨by decide +kernel, rfl⟩
theorem d_X7_stay_86 : Dj cX7_stay 86 89 90 .goto := ⟨4, by decide +kernel, rfl, by decide⟩
theorem d_X7_stay_89 : Dc cX7_stay 89 1 90 (.iconst 0) := ⟨by decide +kernel, rfl⟩
theorem d_X7_stay_90 : Dc cX7_stay 90 1 91 .iadd := ⟨by decide +kernel, rfl⟩
theorem d_X7_stay_91 : Dc cX7_stay 91 2 93 (.istore 6) := ⟨by decide +kernel, rfl⟩
theorem d_X7_stay_93 : Dc cX7_stay 93 3 96 (.iinc 7 1) := ⟨by decide +kernel, rfl⟩
theorem d_X7_stay_96 : Dj cX7_stay 96 99 52 .goto := ⟨(-44), by decide +kernel, rfl, by decide⟩
theorem d_X7_stay_99 : Dc cX7_stay 99 2 101 (.iload 6) := ⟨by decide +kernel, rfl⟩
theorem d_X7_stay_101 : decode cX7_stay 101 = .ok (.ireturn, 1) := by decide +kernel
set_option maxHeartbeats 4000000 in
set_option maxRecDepth 20000 in
theorem c_X7_stay {E : Ev} {n : Nat} {M : Mem} {m : Nat} {s : Int → Int} (hs : MS E M m s) (hO : Ok s) {p c a u t : Int} (h1 : rg p) (h2 : rg c) (h3 : rg a) (h4 : rg u) (h5 : t = 0 ∨ t = 1) : MT E yX7_stay cX7_stay 8 (some .int) 6 0 0 [.ref m, .int (iI p), .int (iI c), .int (iI a), .int (iI u), .int (iI t)] n M (PF (some (.int (iI (q_stay s p c a u t)))) n M) := by
  refine MT.of (by decide) rfl (Nat.le_of_ble_eq_true rfl) ?_
  intro X g
  have g0 := g.1
  show V E X 0 0 n M 0 [some (.ref m), some (.int (iI p)), some (.int (iI c)), some (.int (iI a)), some (.int (iI u)), some (.int (iI t)), none, none] []
  obtain ⟨⟨fr, hm⟩, ha⟩ := id hs
  have hmn := hO.many
  refine V.al0 g0 d_X7_stay_0 ?_
  refine V.il1 g0 d_X7_stay_1 ?_
  refine V.il2 g0 d_X7_stay_2 ?_
  refine V.callVp g0 (c_X7_areThere hs h1 h2 hmn) ky_X7_areThere ki_X7_areThere ks2_X7_areThere lk_X7_101 (by assumption) rfl rfl (Nat.le_of_ble_eq_true rfl) ⟨Nat.zero_le _, Nat.zero_le _⟩ rfl rfl (Nat.le_of_ble_eq_true rfl) d_X7_stay_3 ?_
  refine V.ifneB g0 d_X7_stay_6 (fun c_6 => ?_) (fun c_6 => ?_)
  · skip
    have hk := hO.at c_6.1.1 (by omega)
    have hp : 0 ≤ p ∧ p < 6 := by omega
    have hc : 0 ≤ c ∧ c < 6 := by omega
    have hv := hk.vis hc.1 hc.2
    have hbg := hk.bgo
    have hu := usedOn_b2 hk hc.1 hc.2 (s 618)
    have htb : ∀ day, -5 ≤ trAt (jD s p) (jP s p) (s (103 * p + 3)) day ∧ trAt (jD s p) (jP s p) (s (103 * p + 3)) day ≤ 5 := fun day => trAt_b (fun k => by have := jP_b hk k; omega) _ day
    refine V.il3 g0 d_X7_stay_11 ?_
    refine V.il4 g0 d_X7_stay_12 ?_
    refine V.callSp g0 (c_X7_isSpan h3 h4) ky_X7_isSpan ks_X7_isSpan lk_X7_114 (Nat.le_of_ble_eq_true rfl) ⟨Nat.zero_le _, Nat.zero_le _⟩ rfl rfl (Nat.le_of_ble_eq_true rfl) d_X7_stay_14 ?_
    refine V.ifneB g0 d_X7_stay_17 (fun c_17 => ?_) (fun c_17 => ?_)
    · skip
      refine V.il5 g0 d_X7_stay_23 ?_
      refine V.ifeq g0 d_X7_stay_25 (by omega) (fun c_25 => ?_) (fun c_25 => ?_)
      · skip
        refine V.iconst g0 d_X7_stay_46 ?_
        refine V.is6 g0 d_X7_stay_47 ?_
        refine V.il3 g0 d_X7_stay_49 ?_
        refine V.is7 g0 d_X7_stay_50 ?_
        have LP : ∀ (f i : Nat) (z : Int), i + f = (min (u + 1) (s 618) - a).toNat → z = sumI (fun i => bI (trAt (jD s p) (jP s p) (s (103 * p + 3)) (a + i) = c)) i → V E X 0 0 n M 52 [some (.ref m), some (.int (iI p)), some (.int (iI c)), some (.int (iI a)), some (.int (iI u)), some (.int (iI t)), some (.int (iI z)), some (.int (iI (a + (i : Int))))] [] := by
          intro f
          induction f using Nat.strongRecOn with
          | _ f ih =>
          intro i z hf hz
          refine V.il7 g0 d_X7_stay_52 ?_
          refine V.il4 g0 d_X7_stay_54 ?_
          refine V.icmpgt g0 d_X7_stay_56 (by omega) (fun c_56 => ?_) (fun c_56 => ?_)
          · skip
            refine V.il6 g0 d_X7_stay_99 ?_
            refine V.iret g d_X7_stay_101 (Nat.zero_le _) (Nat.zero_le _) ⟨congrArg (fun z => some (Value.int (iI z))) ?_, rfl, rfl⟩
            rw [hz, q_stay, if_neg (fun h => h c_6), if_neg (fun h => h c_17), if_pos c_25, realDays, daysOn]; congr 1; omega
          · skip
            refine V.il7 g0 d_X7_stay_59 ?_
            refine V.al0 g0 d_X7_stay_61 ?_
            refine V.getf g0 d_X7_stay_62 fl_X7_7 (by assumption) (by rfl) ?_
            refine V.sipush g0 d_X7_stay_65 (by decide) ?_
            refine V.iald g0 d_X7_stay_68 (by assumption) (by omega) (by decide) ?_
            refine V.icmpge g0 d_X7_stay_69 (by omega) (fun c_69 => ?_) (fun c_69 => ?_)
            · skip
              refine V.il6 g0 d_X7_stay_99 ?_
              refine V.iret g d_X7_stay_101 (Nat.zero_le _) (Nat.zero_le _) ⟨congrArg (fun z => some (Value.int (iI z))) ?_, rfl, rfl⟩
              rw [hz, q_stay, if_neg (fun h => h c_6), if_neg (fun h => h c_17), if_pos c_25, realDays, daysOn]; congr 1; omega
            · skip
              refine V.il6 g0 d_X7_stay_72 ?_
              refine V.al0 g0 d_X7_stay_74 ?_
              refine V.il1 g0 d_X7_stay_75 ?_
              refine V.il7 g0 d_X7_stay_76 ?_
              refine V.callVp g0 (c_X7_reallyOn hs hk hp (by omega)) ky_X7_reallyOn ki_X7_reallyOn ks2_X7_reallyOn lk_X7_222 (by assumption) rfl rfl (Nat.le_of_ble_eq_true rfl) ⟨Nat.zero_le _, Nat.zero_le _⟩ rfl rfl (Nat.le_of_ble_eq_true rfl) d_X7_stay_78 ?_
              refine V.il2 g0 d_X7_stay_81 ?_
              refine V.icmpne g0 d_X7_stay_82 (by have := htb (a + i); omega) (fun c_82 => ?_) (fun c_82 => ?_)
              · skip
                refine V.iconst g0 d_X7_stay_89 ?_
                refine V.iadd g0 d_X7_stay_90 ?_
                refine V.is6 g0 d_X7_stay_91 ?_
                refine V.inc7 g0 d_X7_stay_93 ?_
                refine V.goto g0 d_X7_stay_96 ?_
                exact V.eqL (by rw [show a + ((i + 1 : Nat) : Int) = a + (i : Int) + 1 by omega]) (ih (f - 1) (by omega) (i + 1) _ (by omega) (by rw [sumI_s, hz]; first | rw [bI_t (by assumption)] | rw [bI_f (by assumption)]))
              · skip
                refine V.iconst g0 d_X7_stay_85 ?_
                refine V.goto g0 d_X7_stay_86 ?_
                refine V.iadd g0 d_X7_stay_90 ?_
                refine V.is6 g0 d_X7_stay_91 ?_
                refine V.inc7 g0 d_X7_stay_93 ?_
                refine V.goto g0 d_X7_stay_96 ?_
                exact V.eqL (by rw [show a + ((i + 1 : Nat) : Int) = a + (i : Int) + 1 by omega]) (ih (f - 1) (by omega) (i + 1) _ (by omega) (by rw [sumI_s, hz]; first | rw [bI_t (by assumption)] | rw [bI_f (by assumption)]))
        exact V.eqL (by rw [show a + ((0 : Nat) : Int) = a by omega]) (LP (min (u + 1) (s 618) - a).toNat 0 0 (by omega) rfl)
      · skip
        refine V.al0 g0 d_X7_stay_28 ?_
        refine V.il1 g0 d_X7_stay_29 ?_
        refine V.il2 g0 d_X7_stay_30 ?_
        refine V.il3 g0 d_X7_stay_31 ?_
        refine V.il4 g0 d_X7_stay_32 ?_
        refine V.al0 g0 d_X7_stay_34 ?_
        refine V.getf g0 d_X7_stay_35 fl_X7_7 (by assumption) (by rfl) ?_
        refine V.sipush g0 d_X7_stay_38 (by decide) ?_
        refine V.iald g0 d_X7_stay_41 (by assumption) (by omega) (by decide) ?_
        refine V.callVp g0 (c_X7_toldDays hs hk hp hc (by omega) (by omega) (by omega)) ky_X7_toldDays ki_X7_toldDays ks2_X7_toldDays lk_X7_79 (by assumption) rfl rfl (Nat.le_of_ble_eq_true rfl) ⟨Nat.zero_le _, Nat.zero_le _⟩ rfl rfl (Nat.le_of_ble_eq_true rfl) d_X7_stay_42 ?_
        refine V.iret g d_X7_stay_45 (Nat.zero_le _) (Nat.zero_le _) ⟨congrArg (fun z => some (Value.int (iI z))) ?_, rfl, rfl⟩
        rw [q_stay, if_neg (fun h => h c_6), if_neg (fun h => h c_17), if_neg c_25]
    · skip
      refine V.bipush g0 d_X7_stay_20 (by decide) ?_
      refine V.iret g d_X7_stay_22 (Nat.zero_le _) (Nat.zero_le _) ⟨congrArg (fun z => some (Value.int (iI z))) ?_, rfl, rfl⟩
      rw [q_stay, if_neg (fun h => h c_6), if_pos c_17]
  · skip
    refine V.iconst g0 d_X7_stay_9 ?_
    refine V.iret g d_X7_stay_10 (Nat.zero_le _) (Nat.zero_le _) ⟨congrArg (fun z => some (Value.int (iI z))) ?_, rfl, rfl⟩
    rw [q_stay, if_pos c_6]

theorem d_X7_reachedFrom_0 : Dc cX7_reachedFrom 0 1 1 (.iload_n 2) := ⟨by decide +kernel, rfl⟩
theorem d_X7_reachedFrom_1 : Dc cX7_reachedFrom 1 1 2 (.istore_n 3) := ⟨by decide +kernel, rfl⟩
theorem d_X7_reachedFrom_2 : Dc cX7_reachedFrom 2 1 3 (.iconst 0) := ⟨by decide +kernel, rfl⟩
theorem d_X7_reachedFrom_3 : Dc cX7_reachedFrom 3 2 5 (.istore 4) := ⟨by decide +kernel, rfl⟩
theorem d_X7_reachedFrom_5 : Dc cX7_reachedFrom 5 2 7 (.iload 4) := ⟨by decide +kernel, rfl⟩
theorem d_X7_reachedFrom_7 : Dc cX7_reachedFrom 7 2 9 (.bipush 6) := ⟨by decide +kernel, rfl⟩
theorem d_X7_reachedFrom_9 : Dj cX7_reachedFrom 9 12 99 (.if_icmp .ge) := ⟨90, by decide +kernel, rfl, by decide⟩
theorem d_X7_reachedFrom_12 : Dc cX7_reachedFrom 12 1 13 (.aload_n 0) := ⟨by decide +kernel, rfl⟩
theorem d_X7_reachedFrom_13 : Dc cX7_reachedFrom 13 1 14 (.iload_n 1) := ⟨by decide +kernel, rfl⟩
theorem d_X7_reachedFrom_14 : Dc cX7_reachedFrom 14 2 16 (.iload 4) := ⟨by decide +kernel, rfl⟩
theorem d_X7_reachedFrom_16 : Dc cX7_reachedFrom 16 3 19 (.invokevirtual 98) := ⟨by decide +kernel, rfl⟩
theorem d_X7_reachedFrom_19 : Dc cX7_reachedFrom 19 2 21 (.istore 5) := ⟨by decide +kernel, rfl⟩
theorem d_X7_reachedFrom_21 : Dc cX7_reachedFrom 21 1 22 (.iconst 0) := ⟨by decide +kernel, rfl⟩
theorem d_X7_reachedFrom_22 : Dc cX7_reachedFrom 22 2 24 (.istore 6) := ⟨by decide +kernel, rfl⟩
theorem d_X7_reachedFrom_24 : Dc cX7_reachedFrom 24 2 26 (.iload 6) := ⟨by decide +kernel, rfl⟩
theorem d_X7_reachedFrom_26 : Dc cX7_reachedFrom 26 2 28 (.bipush 6) := ⟨by decide +kernel, rfl⟩
theorem d_X7_reachedFrom_28 : Dj cX7_reachedFrom 28 31 93 (.if_icmp .ge) := ⟨65, by decide +kernel, rfl, by decide⟩
theorem d_X7_reachedFrom_31 : Dc cX7_reachedFrom 31 2 33 (.iload 5) := ⟨by decide +kernel, rfl⟩
theorem d_X7_reachedFrom_33 : Dj cX7_reachedFrom 33 36 93 (.ifCond .eq) := ⟨60, by decide +kernel, rfl, by decide⟩
theorem d_X7_reachedFrom_36 : Dc cX7_reachedFrom 36 2 38 (.iload 6) := ⟨by decide +kernel, rfl⟩
theorem d_X7_reachedFrom_38 : Dc cX7_reachedFrom 38 2 40 (.iload 4) := ⟨by decide +kernel, rfl⟩
theorem d_X7_reachedFrom_40 : Dj cX7_reachedFrom 40 43 68 (.if_icmp .eq) := ⟨28, by decide +kernel, rfl, by decide⟩
theorem d_X7_reachedFrom_43 : Dc cX7_reachedFrom 43 1 44 (.iload_n 2) := ⟨by decide +kernel, rfl⟩
theorem d_X7_reachedFrom_44 : Dc cX7_reachedFrom 44 2 46 (.iload 6) := ⟨by decide +kernel, rfl⟩
theorem d_X7_reachedFrom_46 : Dc cX7_reachedFrom 46 1 47 .ishr := ⟨by decide +kernel, rfl⟩
theorem d_X7_reachedFrom_47 : Dc cX7_reachedFrom 47 1 48 (.iconst 1) := ⟨by decide +kernel, rfl⟩
theorem d_X7_reachedFrom_48 : Dc cX7_reachedFrom 48 1 49 .iand := ⟨by decide +kernel, rfl⟩
theorem d_X7_reachedFrom_49 : Dc cX7_reachedFrom 49 1 50 (.iconst 1) := ⟨by decide +kernel, rfl⟩
theorem d_X7_reachedFrom_50 : Dj cX7_reachedFrom 50 53 68 (.if_icmp .ne) := ⟨18, by decide +kernel, rfl, by decide⟩
theorem d_X7_reachedFrom_53 : Dc cX7_reachedFrom 53 1 54 (.aload_n 0) := ⟨by decide +kernel, rfl⟩
theorem d_X7_reachedFrom_54 : Dc cX7_reachedFrom 54 2 56 (.iload 6) := ⟨by decide +kernel, rfl⟩
theorem d_X7_reachedFrom_56 : Dc cX7_reachedFrom 56 2 58 (.iload 4) := ⟨by decide +kernel, rfl⟩
theorem d_X7_reachedFrom_58 : Dc cX7_reachedFrom 58 3 61 (.invokevirtual 95) := ⟨by decide +kernel, rfl⟩
theorem d_X7_reachedFrom_61 : Dj cX7_reachedFrom 61 64 68 (.ifCond .eq) := ⟨7, by decide +kernel, rfl, by decide⟩
theorem d_X7_reachedFrom_64 : Dc cX7_reachedFrom 64 1 65 (.iconst 1) := ⟨by decide +kernel, rfl⟩
theorem d_X7_reachedFrom_65 : Dj cX7_reachedFrom 65 68 69 .goto := ⟨4, by decide +kernel, rfl, by decide⟩
theorem d_X7_reachedFrom_68 : Dc cX7_reachedFrom 68 1 69 (.iconst 0) := ⟨by decide +kernel, rfl⟩
theorem d_X7_reachedFrom_69 : Dc cX7_reachedFrom 69 2 71 (.istore 7) := ⟨by decide +kernel, rfl⟩
theorem d_X7_reachedFrom_71 : Dc cX7_reachedFrom 71 1 72 (.iload_n 3) := ⟨by decide +kernel, rfl⟩
theorem d_X7_reachedFrom_72 : Dc cX7_reachedFrom 72 2 74 (.iload 7) := ⟨by decide +kernel, rfl⟩
theorem d_X7_reachedFrom_74 : Dj cX7_reachedFrom 74 77 84 (.ifCond .eq) := ⟨10, by decide +kernel, rfl, by decide⟩
theorem d_X7_reachedFrom_77 : Dc cX7_reachedFrom 77 1 78 (.iconst 1) := ⟨by decide +kernel, rfl⟩
theorem d_X7_reachedFrom_78 : Dc cX7_reachedFrom 78 2 80 (.iload 4) := ⟨by decide +kernel, rfl⟩
theorem d_X7_reachedFrom_80 : Dc cX7_reachedFrom 80 1 81 .ishl := ⟨by decide +kernel, rfl⟩
theorem d_X7_reachedFrom_81 : Dj cX7_reachedFrom 81 84 85 .goto := ⟨4, by decide +kernel, rfl, by decide⟩
theorem d_X7_reachedFrom_84 : Dc cX7_reachedFrom 84 1 85 (.iconst 0) := ⟨by decide +kernel, rfl⟩
theorem d_X7_reachedFrom_85 : Dc cX7_reachedFrom 85 1 86 .ior := ⟨by decide +kernel, rfl⟩
theorem d_X7_reachedFrom_86 : Dc cX7_reachedFrom 86 1 87 (.istore_n 3) := ⟨by decide +kernel, rfl⟩
theorem d_X7_reachedFrom_87 : Dc cX7_reachedFrom 87 3 90 (.iinc 6 1) := ⟨by decide +kernel, rfl⟩
theorem d_X7_reachedFrom_90 : Dj cX7_reachedFrom 90 93 24 .goto := ⟨(-66), by decide +kernel, rfl, by decide⟩
theorem d_X7_reachedFrom_93 : Dc cX7_reachedFrom 93 3 96 (.iinc 4 1) := ⟨by decide +kernel, rfl⟩
theorem d_X7_reachedFrom_96 : Dj cX7_reachedFrom 96 99 5 .goto := ⟨(-91), by decide +kernel, rfl, by decide⟩
theorem d_X7_reachedFrom_99 : Dc cX7_reachedFrom 99 1 100 (.iload_n 3) := ⟨by decide +kernel, rfl⟩
theorem d_X7_reachedFrom_100 : decode cX7_reachedFrom 100 = .ok (.ireturn, 1) := by decide +kernel
set_option maxHeartbeats 4000000 in
set_option maxRecDepth 20000 in
theorem c_X7_reachedFrom {E : Ev} {n : Nat} {M : Mem} {m : Nat} {s : Int → Int} (hs : MS E M m s) {p : Int} (hk : OkP s p) (hp : 0 ≤ p ∧ p < 6) (hcl : 0 ≤ s 620 ∧ s 620 < 32768) {set : Nat} (hset : set < 64) : MT E yX7_reachedFrom cX7_reachedFrom 8 (some .int) 9 0 0 [.ref m, .int (iI p), .int (iI (set : Int))] n M (PF (some (.int (iI (((rchO s p set 6 : Nat) : Int))))) n M) := by
  refine MT.of (by decide) rfl (Nat.le_of_ble_eq_true rfl) ?_
  intro X g
  have g0 := g.1
  show V E X 0 0 n M 0 [some (.ref m), some (.int (iI p)), some (.int (iI (set : Int))), none, none, none, none, none] []
  obtain ⟨⟨fr, hm⟩, ha⟩ := id hs
  refine V.il2 g0 d_X7_reachedFrom_0 ?_
  refine V.is3 g0 d_X7_reachedFrom_1 ?_
  refine V.iconst g0 d_X7_reachedFrom_2 ?_
  refine V.is4 g0 d_X7_reachedFrom_3 ?_
  have LP : ∀ (f c : Nat) (r : Nat), c + f = 6 → r = rchO s p set c → V E X 0 0 n M 5 [some (.ref m), some (.int (iI p)), some (.int (iI (set : Int))), some (.int (iI (r : Int))), some (.int (iI (c : Int))), none, none, none] [] := by
    intro f
    induction f using Nat.strongRecOn with
    | _ f ih =>
    intro c r hf hr
    have hrb : r < 64 := by rw [hr]; exact rchO_b hset c (by omega)
    refine V.il4 g0 d_X7_reachedFrom_5 ?_
    refine V.bipush g0 d_X7_reachedFrom_7 (by decide) ?_
    refine V.icmpge g0 d_X7_reachedFrom_9 (by omega) (fun c_9 => ?_) (fun c_9 => ?_)
    · skip
      refine V.il3 g0 d_X7_reachedFrom_99 ?_
      refine V.iret g d_X7_reachedFrom_100 (Nat.zero_le _) (Nat.zero_le _) ⟨congrArg (fun z => some (Value.int (iI z))) ?_, rfl, rfl⟩
      rw [hr, show c = 6 by omega]
    · skip
      refine V.al0 g0 d_X7_reachedFrom_12 ?_
      refine V.il1 g0 d_X7_reachedFrom_13 ?_
      refine V.il4 g0 d_X7_reachedFrom_14 ?_
      refine V.callVp g0 (c_X7_isLetIn hs hk hp (by omega)) ky_X7_isLetIn ki_X7_isLetIn ks2_X7_isLetIn lk_X7_98 (by assumption) rfl rfl (Nat.le_of_ble_eq_true rfl) ⟨Nat.zero_le _, Nat.zero_le _⟩ rfl rfl (Nat.le_of_ble_eq_true rfl) d_X7_reachedFrom_16 ?_
      refine V.is5 g0 d_X7_reachedFrom_19 ?_
      refine V.iconst g0 d_X7_reachedFrom_21 ?_
      refine V.is6 g0 d_X7_reachedFrom_22 ?_
      have LI : ∀ (f2 k : Nat) (r2 : Nat), k + f2 = 6 → r2 = (if mayBe s p c (s 618) then rchI s set c k r else r) → (¬ mayBe s p c (s 618) → k = 0) → V E X 0 0 n M 24 [some (.ref m), some (.int (iI p)), some (.int (iI (set : Int))), some (.int (iI (r2 : Int))), some (.int (iI (c : Int))), some (.int (iI (bI (mayBe s p c (s 618))))), some (.int (iI (k : Int))), none] [] := by
        intro f2
        induction f2 using Nat.strongRecOn with
        | _ f2 ih2 =>
        intro k r2 hf2 hr2 hk2
        have hr2b : r2 < 64 := by rw [hr2]; split; exact rchI_b (by omega) k hrb; exact hrb
        refine V.il6 g0 d_X7_reachedFrom_24 ?_
        refine V.bipush g0 d_X7_reachedFrom_26 (by decide) ?_
        refine V.icmpge g0 d_X7_reachedFrom_28 (by omega) (fun c_28 => ?_) (fun c_28 => ?_)
        · skip
          have hr3 : r2 = rchO s p set (c + 1) := by
            rw [hr2, rchO, show k = 6 by omega, hr]
          refine V.inc4 g0 d_X7_reachedFrom_93 ?_
          refine V.goto g0 d_X7_reachedFrom_96 ?_
          exact V.weak2 (ih (f - 1) (by omega) (c + 1) r2 (by omega) hr3) (lcLe_s (lcLe_s (lcLe_s (lcLe_s (lcLe_s (lcLe_f (lcLe_f (lcLe_f lcLe_n))))))))
        · skip
          refine V.il5 g0 d_X7_reachedFrom_31 ?_
          refine V.ifeqB g0 d_X7_reachedFrom_33 (fun c_33 => ?_) (fun c_33 => ?_)
          · skip
            have hr3 : r2 = rchO s p set (c + 1) := by rw [hr2, rchO, if_neg c_33, if_neg c_33, hr]
            refine V.inc4 g0 d_X7_reachedFrom_93 ?_
            refine V.goto g0 d_X7_reachedFrom_96 ?_
            exact V.weak2 (ih (f - 1) (by omega) (c + 1) r2 (by omega) hr3) (lcLe_s (lcLe_s (lcLe_s (lcLe_s (lcLe_s (lcLe_f (lcLe_f (lcLe_f lcLe_n))))))))
          · skip
            refine V.il6 g0 d_X7_reachedFrom_36 ?_
            refine V.il4 g0 d_X7_reachedFrom_38 ?_
            refine V.icmpeq g0 d_X7_reachedFrom_40 (by omega) (fun c_40 => ?_) (fun c_40 => ?_)
            · skip
              obtain ⟨rr, hrr⟩ : ∃ rr : Nat, rr = (if k ≠ c ∧ set.testBit k = true ∧ isOpen s k c then 2 ^ c else 0) := ⟨_, rfl⟩
              have hcond : ¬ (k ≠ c ∧ set.testBit k = true ∧ isOpen s k c) := fun h => h.1 (by omega)
              refine V.iconst g0 d_X7_reachedFrom_68 ?_
              refine V.is7 g0 d_X7_reachedFrom_69 ?_
              refine V.il3 g0 d_X7_reachedFrom_71 ?_
              refine V.il7 g0 d_X7_reachedFrom_72 ?_
              refine V.ifeq g0 d_X7_reachedFrom_74 (by decide) (fun c_74 => ?_) (fun c_74 => ?_)
              · skip
                have hrr2 := hrr
                rw [if_neg hcond] at hrr2
                refine V.iconst g0 d_X7_reachedFrom_84 ?_
                refine V.ior g0 d_X7_reachedFrom_85 (hrr2 ▸ iI_or : iI (r2 : Int) ||| _ = iI ((r2 ||| rr : Nat) : Int)) ?_
                refine V.is3 g0 d_X7_reachedFrom_86 ?_
                refine V.inc6 g0 d_X7_reachedFrom_87 ?_
                refine V.goto g0 d_X7_reachedFrom_90 ?_
                exact V.weak2 (ih2 (f2 - 1) (by omega) (k + 1) (r2 ||| rr) (by omega) (by rw [if_pos c_33, rchI, ← hrr, hr2, if_pos c_33]) (fun h => absurd c_33 h)) (lcLe_s (lcLe_s (lcLe_s (lcLe_s (lcLe_s (lcLe_s (lcLe_s (lcLe_f lcLe_n))))))))
              · skip
                exact absurd c_74 (by decide)
            · skip
              refine V.il2 g0 d_X7_reachedFrom_43 ?_
              refine V.il6 g0 d_X7_reachedFrom_44 ?_
              refine V.ishr g0 d_X7_reachedFrom_46 (iI_shrn (by omega) (by omega)) ?_
              refine V.iconst g0 d_X7_reachedFrom_47 ?_
              refine V.iand g0 d_X7_reachedFrom_48 (iI_and (b := 1)) ?_
              refine V.iconst g0 d_X7_reachedFrom_49 ?_
              refine V.icmpne g0 d_X7_reachedFrom_50 (by rw [bit_1]; have := bI_b (set.testBit k = true); omega) (fun c_50 => ?_) (fun c_50 => ?_)
              · skip
                obtain ⟨rr, hrr⟩ : ∃ rr : Nat, rr = (if k ≠ c ∧ set.testBit k = true ∧ isOpen s k c then 2 ^ c else 0) := ⟨_, rfl⟩
                rw [bit_1] at c_50
                have hcond : ¬ (k ≠ c ∧ set.testBit k = true ∧ isOpen s k c) := fun h => c_50 (bI_t h.2.1)
                refine V.iconst g0 d_X7_reachedFrom_68 ?_
                refine V.is7 g0 d_X7_reachedFrom_69 ?_
                refine V.il3 g0 d_X7_reachedFrom_71 ?_
                refine V.il7 g0 d_X7_reachedFrom_72 ?_
                refine V.ifeq g0 d_X7_reachedFrom_74 (by decide) (fun c_74 => ?_) (fun c_74 => ?_)
                · skip
                  have hrr2 := hrr
                  rw [if_neg hcond] at hrr2
                  refine V.iconst g0 d_X7_reachedFrom_84 ?_
                  refine V.ior g0 d_X7_reachedFrom_85 (hrr2 ▸ iI_or : iI (r2 : Int) ||| _ = iI ((r2 ||| rr : Nat) : Int)) ?_
                  refine V.is3 g0 d_X7_reachedFrom_86 ?_
                  refine V.inc6 g0 d_X7_reachedFrom_87 ?_
                  refine V.goto g0 d_X7_reachedFrom_90 ?_
                  exact V.weak2 (ih2 (f2 - 1) (by omega) (k + 1) (r2 ||| rr) (by omega) (by rw [if_pos c_33, rchI, ← hrr, hr2, if_pos c_33]) (fun h => absurd c_33 h)) (lcLe_s (lcLe_s (lcLe_s (lcLe_s (lcLe_s (lcLe_s (lcLe_s (lcLe_f lcLe_n))))))))
                · skip
                  exact absurd c_74 (by decide)
              · skip
                rw [bit_1] at c_50
                have hbit : set.testBit k = true := Decidable.byContradiction fun h => by rw [bI_f h] at c_50; omega
                refine V.al0 g0 d_X7_reachedFrom_53 ?_
                refine V.il6 g0 d_X7_reachedFrom_54 ?_
                refine V.il4 g0 d_X7_reachedFrom_56 ?_
                refine V.callVp g0 (c_X7_isOpen hs (by omega) (by omega) c_40 hcl) ky_X7_isOpen ki_X7_isOpen ks2_X7_isOpen lk_X7_95 (by assumption) rfl rfl (Nat.le_of_ble_eq_true rfl) ⟨Nat.zero_le _, Nat.zero_le _⟩ rfl rfl (Nat.le_of_ble_eq_true rfl) d_X7_reachedFrom_58 ?_
                refine V.ifeqB g0 d_X7_reachedFrom_61 (fun c_61 => ?_) (fun c_61 => ?_)
                · skip
                  obtain ⟨rr, hrr⟩ : ∃ rr : Nat, rr = (if k ≠ c ∧ set.testBit k = true ∧ isOpen s k c then 2 ^ c else 0) := ⟨_, rfl⟩
                  have hcond : ¬ (k ≠ c ∧ set.testBit k = true ∧ isOpen s k c) := fun h => c_61 h.2.2
                  refine V.iconst g0 d_X7_reachedFrom_68 ?_
                  refine V.is7 g0 d_X7_reachedFrom_69 ?_
                  refine V.il3 g0 d_X7_reachedFrom_71 ?_
                  refine V.il7 g0 d_X7_reachedFrom_72 ?_
                  refine V.ifeq g0 d_X7_reachedFrom_74 (by decide) (fun c_74 => ?_) (fun c_74 => ?_)
                  · skip
                    have hrr2 := hrr
                    rw [if_neg hcond] at hrr2
                    refine V.iconst g0 d_X7_reachedFrom_84 ?_
                    refine V.ior g0 d_X7_reachedFrom_85 (hrr2 ▸ iI_or : iI (r2 : Int) ||| _ = iI ((r2 ||| rr : Nat) : Int)) ?_
                    refine V.is3 g0 d_X7_reachedFrom_86 ?_
                    refine V.inc6 g0 d_X7_reachedFrom_87 ?_
                    refine V.goto g0 d_X7_reachedFrom_90 ?_
                    exact V.weak2 (ih2 (f2 - 1) (by omega) (k + 1) (r2 ||| rr) (by omega) (by rw [if_pos c_33, rchI, ← hrr, hr2, if_pos c_33]) (fun h => absurd c_33 h)) (lcLe_s (lcLe_s (lcLe_s (lcLe_s (lcLe_s (lcLe_s (lcLe_s (lcLe_f lcLe_n))))))))
                  · skip
                    exact absurd c_74 (by decide)
                · skip
                  obtain ⟨rr, hrr⟩ : ∃ rr : Nat, rr = (if k ≠ c ∧ set.testBit k = true ∧ isOpen s k c then 2 ^ c else 0) := ⟨_, rfl⟩
                  have hcond : k ≠ c ∧ set.testBit k = true ∧ isOpen s k c := ⟨by omega, hbit, c_61⟩
                  refine V.iconst g0 d_X7_reachedFrom_64 ?_
                  refine V.goto g0 d_X7_reachedFrom_65 ?_
                  refine V.is7 g0 d_X7_reachedFrom_69 ?_
                  refine V.il3 g0 d_X7_reachedFrom_71 ?_
                  refine V.il7 g0 d_X7_reachedFrom_72 ?_
                  refine V.ifeq g0 d_X7_reachedFrom_74 (by decide) (fun c_74 => ?_) (fun c_74 => ?_)
                  · skip
                    exact absurd c_74 (by decide)
                  · skip
                    have hrr2 := hrr
                    rw [if_pos hcond] at hrr2
                    refine V.iconst g0 d_X7_reachedFrom_77 ?_
                    refine V.il4 g0 d_X7_reachedFrom_78 ?_
                    refine V.ishl g0 d_X7_reachedFrom_80 (iI_shl1n (by omega)) ?_
                    refine V.goto g0 d_X7_reachedFrom_81 ?_
                    refine V.ior g0 d_X7_reachedFrom_85 (hrr2 ▸ iI_or : iI (r2 : Int) ||| _ = iI ((r2 ||| rr : Nat) : Int)) ?_
                    refine V.is3 g0 d_X7_reachedFrom_86 ?_
                    refine V.inc6 g0 d_X7_reachedFrom_87 ?_
                    refine V.goto g0 d_X7_reachedFrom_90 ?_
                    exact V.weak2 (ih2 (f2 - 1) (by omega) (k + 1) (r2 ||| rr) (by omega) (by rw [if_pos c_33, rchI, ← hrr, hr2, if_pos c_33]) (fun h => absurd c_33 h)) (lcLe_s (lcLe_s (lcLe_s (lcLe_s (lcLe_s (lcLe_s (lcLe_s (lcLe_f lcLe_n))))))))
      exact LI 6 0 r rfl (by split <;> rfl) (fun _ => rfl)
  exact LP 6 0 set rfl rfl

theorem d_X7_wayTo_0 : Dc cX7_wayTo 0 1 1 (.aload_n 0) := ⟨by decide +kernel, rfl⟩
theorem d_X7_wayTo_1 : Dc cX7_wayTo 1 1 2 (.iload_n 1) := ⟨by decide +kernel, rfl⟩
theorem d_X7_wayTo_2 : Dc cX7_wayTo 2 1 3 (.iload_n 2) := ⟨by decide +kernel, rfl⟩
theorem d_X7_wayTo_3 : Dc cX7_wayTo 3 3 6 (.invokevirtual 101) := ⟨by decide +kernel, rfl⟩
theorem d_X7_wayTo_6 : Dj cX7_wayTo 6 9 11 (.ifCond .ne) := ⟨5, by decide +kernel, rfl, by decide⟩
theorem d_X7_wayTo_9 : Dc cX7_wayTo 9 1 10 (.iconst (-1)) := ⟨by decide +kernel, rfl⟩
theorem d_X7_wayTo_10 : decode cX7_wayTo 10 = .ok (.ireturn, 1) := by decide +kernel
theorem d_X7_wayTo_11 : Dc cX7_wayTo 11 1 12 (.iconst 1) := ⟨by decide +kernel, rfl⟩
theorem d_X7_wayTo_12 : Dc cX7_wayTo 12 1 13 (.aload_n 0) := ⟨by decide +kernel, rfl⟩
theorem d_X7_wayTo_13 : Dc cX7_wayTo 13 1 14 (.iload_n 1) := ⟨by decide +kernel, rfl⟩
theorem d_X7_wayTo_14 : Dc cX7_wayTo 14 1 15 (.iconst 2) := ⟨by decide +kernel, rfl⟩
theorem d_X7_wayTo_15 : Dc cX7_wayTo 15 3 18 (.invokevirtual 50) := ⟨by decide +kernel, rfl⟩
theorem d_X7_wayTo_18 : Dc cX7_wayTo 18 1 19 .ishl := ⟨by decide +kernel, rfl⟩
theorem d_X7_wayTo_19 : Dc cX7_wayTo 19 1 20 (.istore_n 3) := ⟨by decide +kernel, rfl⟩
theorem d_X7_wayTo_20 : Dc cX7_wayTo 20 1 21 (.iconst 0) := ⟨by decide +kernel, rfl⟩
theorem d_X7_wayTo_21 : Dc cX7_wayTo 21 2 23 (.istore 4) := ⟨by decide +kernel, rfl⟩
theorem d_X7_wayTo_23 : Dc cX7_wayTo 23 2 25 (.iload 4) := ⟨by decide +kernel, rfl⟩
theorem d_X7_wayTo_25 : Dc cX7_wayTo 25 2 27 (.bipush 6) := ⟨by decide +kernel, rfl⟩
theorem d_X7_wayTo_27 : Dj cX7_wayTo 27 30 51 (.if_icmp .ge) := ⟨24, by decide +kernel, rfl, by decide⟩
theorem d_X7_wayTo_30 : Dc cX7_wayTo 30 1 31 (.iload_n 3) := ⟨by decide +kernel, rfl⟩
theorem d_X7_wayTo_31 : Dc cX7_wayTo 31 1 32 (.iload_n 2) := ⟨by decide +kernel, rfl⟩
theorem d_X7_wayTo_32 : Dc cX7_wayTo 32 1 33 .ishr := ⟨by decide +kernel, rfl⟩
theorem d_X7_wayTo_33 : Dc cX7_wayTo 33 1 34 (.iconst 1) := ⟨by decide +kernel, rfl⟩
theorem d_X7_wayTo_34 : Dc cX7_wayTo 34 1 35 .iand := ⟨by decide +kernel, rfl⟩
theorem d_X7_wayTo_35 : Dj cX7_wayTo 35 38 51 (.ifCond .ne) := ⟨16, by decide +kernel, rfl, by decide⟩
theorem d_X7_wayTo_38 : Dc cX7_wayTo 38 1 39 (.aload_n 0) := ⟨by decide +kernel, rfl⟩
theorem d_X7_wayTo_39 : Dc cX7_wayTo 39 1 40 (.iload_n 1) := ⟨by decide +kernel, rfl⟩
theorem d_X7_wayTo_40 : Dc cX7_wayTo 40 1 41 (.iload_n 3) := ⟨by decide +kernel, rfl⟩
theorem d_X7_wayTo_41 : Dc cX7_wayTo 41 3 44 (.invokevirtual 225) := ⟨by decide +kernel, rfl⟩
theorem d_X7_wayTo_44 : Dc cX7_wayTo 44 1 45 (.istore_n 3) := ⟨by decide +kernel, rfl⟩
theorem d_X7_wayTo_45 : Dc cX7_wayTo 45 3 48 (.iinc 4 1) := ⟨by decide +kernel, rfl⟩
theorem d_X7_wayTo_48 : Dj cX7_wayTo 48 51 23 .goto := ⟨(-25), by decide +kernel, rfl, by decide⟩
theorem d_X7_wayTo_51 : Dc cX7_wayTo 51 2 53 (.iload 4) := ⟨by decide +kernel, rfl⟩
theorem d_X7_wayTo_53 : Dc cX7_wayTo 53 2 55 (.bipush 6) := ⟨by decide +kernel, rfl⟩
theorem d_X7_wayTo_55 : Dj cX7_wayTo 55 58 63 (.if_icmp .ne) := ⟨8, by decide +kernel, rfl, by decide⟩
theorem d_X7_wayTo_58 : Dc cX7_wayTo 58 2 60 (.bipush (-5)) := ⟨by decide +kernel, rfl⟩
theorem d_X7_wayTo_60 : Dj cX7_wayTo 60 63 65 .goto := ⟨5, by decide +kernel, rfl, by decide⟩
theorem d_X7_wayTo_63 : Dc cX7_wayTo 63 2 65 (.iload 4) := ⟨by decide +kernel, rfl⟩
theorem d_X7_wayTo_65 : decode cX7_wayTo 65 = .ok (.ireturn, 1) := by decide +kernel
set_option maxHeartbeats 4000000 in
set_option maxRecDepth 20000 in
theorem c_X7_wayTo {E : Ev} {n : Nat} {M : Mem} {m : Nat} {s : Int → Int} (hs : MS E M m s) (hO : Ok s) {p c : Int} (h1 : rg p) (h2 : rg c) : MT E yX7_wayTo cX7_wayTo 5 (some .int) 10 0 0 [.ref m, .int (iI p), .int (iI c)] n M (PF (some (.int (iI (q_wayTo s p c)))) n M) := by
  refine MT.of (by decide) rfl (Nat.le_of_ble_eq_true rfl) ?_
  intro X g
  have g0 := g.1
  show V E X 0 0 n M 0 [some (.ref m), some (.int (iI p)), some (.int (iI c)), none, none] []
  obtain ⟨⟨fr, hm⟩, ha⟩ := id hs
  have hmn := hO.many
  refine V.al0 g0 d_X7_wayTo_0 ?_
  refine V.il1 g0 d_X7_wayTo_1 ?_
  refine V.il2 g0 d_X7_wayTo_2 ?_
  refine V.callVp g0 (c_X7_areThere hs h1 h2 hmn) ky_X7_areThere ki_X7_areThere ks2_X7_areThere lk_X7_101 (by assumption) rfl rfl (Nat.le_of_ble_eq_true rfl) ⟨Nat.zero_le _, Nat.zero_le _⟩ rfl rfl (Nat.le_of_ble_eq_true rfl) d_X7_wayTo_3 ?_
  refine V.ifneB g0 d_X7_wayTo_6 (fun c_6 => ?_) (fun c_6 => ?_)
  · skip
    have hk := hO.at c_6.1.1 (by omega)
    have hp : 0 ≤ p ∧ p < 6 := by omega
    have hw := hk.whr
    have hcl := hO.clo
    rw [q_wayTo, if_neg (fun h => h c_6)] at g
    have h0 : iI 1 <<< (iI (s (103 * p + 2)) &&& 31) = iI ((rchs s p 0 : Nat) : Int) := iI_shl1 (by omega)
    refine V.iconst g0 d_X7_wayTo_11 ?_
    refine V.al0 g0 d_X7_wayTo_12 ?_
    refine V.il1 g0 d_X7_wayTo_13 ?_
    refine V.iconst g0 d_X7_wayTo_14 ?_
    refine V.callVp g0 (c_X7_get hs (by omega)) ky_X7_get ki_X7_get ks2_X7_get lk_X7_50 (by assumption) rfl rfl (Nat.le_of_ble_eq_true rfl) ⟨Nat.zero_le _, Nat.zero_le _⟩ rfl rfl (Nat.le_of_ble_eq_true rfl) d_X7_wayTo_15 ?_
    refine V.ishl g0 d_X7_wayTo_18 h0 ?_
    refine V.is3 g0 d_X7_wayTo_19 ?_
    refine V.iconst g0 d_X7_wayTo_20 ?_
    refine V.is4 g0 d_X7_wayTo_21 ?_
    have LP : ∀ (f k : Nat), k + f = 6 → wayF s p c.toNat 6 0 = wayF s p c.toNat f k → V E X 0 0 n M 23 [some (.ref m), some (.int (iI p)), some (.int (iI c)), some (.int (iI ((rchs s p k : Nat) : Int))), some (.int (iI (k : Int)))] [] := by
      intro f
      induction f using Nat.strongRecOn with
      | _ f ih =>
      intro k hf hwf
      have hrb := rchs_b (s := s) (p := p) hw k
      refine V.il4 g0 d_X7_wayTo_23 ?_
      refine V.bipush g0 d_X7_wayTo_25 (by decide) ?_
      refine V.icmpge g0 d_X7_wayTo_27 (by omega) (fun c_27 => ?_) (fun c_27 => ?_)
      · skip
        have hk6 : k = 6 := by omega
        rw [show f = 0 by omega] at hwf
        refine V.il4 g0 d_X7_wayTo_51 ?_
        refine V.bipush g0 d_X7_wayTo_53 (by decide) ?_
        refine V.icmpne g0 d_X7_wayTo_55 (by omega) (fun c_55 => ?_) (fun c_55 => ?_)
        · skip
          refine V.il4 g0 d_X7_wayTo_63 ?_
          refine V.iret g d_X7_wayTo_65 (Nat.zero_le _) (Nat.zero_le _) ⟨congrArg (fun z => some (Value.int (iI z))) ?_, rfl, rfl⟩
          first | (rw [hwf, wayF, if_pos hbit]; done) | (exfalso; omega)
        · skip
          refine V.bipush g0 d_X7_wayTo_58 (by decide) ?_
          refine V.goto g0 d_X7_wayTo_60 ?_
          refine V.iret g d_X7_wayTo_65 (Nat.zero_le _) (Nat.zero_le _) ⟨congrArg (fun z => some (Value.int (iI z))) ?_, rfl, rfl⟩
          first | (rw [hwf]; rfl) | (exfalso; omega)
      · skip
        obtain ⟨f2, rfl⟩ : ∃ f2, f = f2 + 1 := ⟨f - 1, by omega⟩
        refine V.il3 g0 d_X7_wayTo_30 ?_
        refine V.il2 g0 d_X7_wayTo_31 ?_
        refine V.ishr g0 d_X7_wayTo_32 (iI_shr (by omega) (by omega)) ?_
        refine V.iconst g0 d_X7_wayTo_33 ?_
        refine V.iand g0 d_X7_wayTo_34 (iI_and (b := 1)) ?_
        refine V.ifne g0 d_X7_wayTo_35 (by rw [bit_1]; have := bI_b ((rchs s p k).testBit c.toNat = true); omega) (fun c_35 => ?_) (fun c_35 => ?_)
        · skip
          rw [bit_1] at c_35
          have hbit : (rchs s p k).testBit c.toNat = true := Decidable.byContradiction fun h => c_35 (bI_f h)
          refine V.il4 g0 d_X7_wayTo_51 ?_
          refine V.bipush g0 d_X7_wayTo_53 (by decide) ?_
          refine V.icmpne g0 d_X7_wayTo_55 (by omega) (fun c_55 => ?_) (fun c_55 => ?_)
          · skip
            refine V.il4 g0 d_X7_wayTo_63 ?_
            refine V.iret g d_X7_wayTo_65 (Nat.zero_le _) (Nat.zero_le _) ⟨congrArg (fun z => some (Value.int (iI z))) ?_, rfl, rfl⟩
            first | (rw [hwf, wayF, if_pos hbit]; done) | (exfalso; omega)
          · skip
            refine V.bipush g0 d_X7_wayTo_58 (by decide) ?_
            refine V.goto g0 d_X7_wayTo_60 ?_
            refine V.iret g d_X7_wayTo_65 (Nat.zero_le _) (Nat.zero_le _) ⟨congrArg (fun z => some (Value.int (iI z))) ?_, rfl, rfl⟩
            first | (rw [hwf]; rfl) | (exfalso; omega)
        · skip
          rw [bit_1] at c_35
          have hbit : ¬ (rchs s p k).testBit c.toNat = true := fun h => by rw [bI_t h] at c_35; omega
          refine V.al0 g0 d_X7_wayTo_38 ?_
          refine V.il1 g0 d_X7_wayTo_39 ?_
          refine V.il3 g0 d_X7_wayTo_40 ?_
          refine V.callVp g0 (c_X7_reachedFrom hs hk hp hcl hrb) ky_X7_reachedFrom ki_X7_reachedFrom ks2_X7_reachedFrom lk_X7_225 (by assumption) rfl rfl (Nat.le_of_ble_eq_true rfl) ⟨Nat.zero_le _, Nat.zero_le _⟩ rfl rfl (Nat.le_of_ble_eq_true rfl) d_X7_wayTo_41 ?_
          refine V.is3 g0 d_X7_wayTo_44 ?_
          refine V.inc4 g0 d_X7_wayTo_45 ?_
          refine V.goto g0 d_X7_wayTo_48 ?_
          exact ih f2 (by omega) (k + 1) (by omega) (by rw [hwf, wayF, if_neg hbit])
    exact LP 6 0 rfl rfl
  · skip
    refine V.iconst g0 d_X7_wayTo_9 ?_
    refine V.iret g d_X7_wayTo_10 (Nat.zero_le _) (Nat.zero_le _) ⟨congrArg (fun z => some (Value.int (iI z))) ?_, rfl, rfl⟩
    rw [q_wayTo, if_pos c_6]

theorem d_X7_daysLeft_0 : Dc cX7_daysLeft 0 1 1 (.aload_n 0) := ⟨by decide +kernel, rfl⟩
theorem d_X7_daysLeft_1 : Dc cX7_daysLeft 1 1 2 (.iload_n 1) := ⟨by decide +kernel, rfl⟩
theorem d_X7_daysLeft_2 : Dc cX7_daysLeft 2 1 3 (.iload_n 2) := ⟨by decide +kernel, rfl⟩
theorem d_X7_daysLeft_3 : Dc cX7_daysLeft 3 3 6 (.invokevirtual 101) := ⟨by decide +kernel, rfl⟩
theorem d_X7_daysLeft_6 : Dj cX7_daysLeft 6 9 11 (.ifCond .ne) := ⟨5, by decide +kernel, rfl, by decide⟩
theorem d_X7_daysLeft_9 : Dc cX7_daysLeft 9 1 10 (.iconst (-1)) := ⟨by decide +kernel, rfl⟩
theorem d_X7_daysLeft_10 : decode cX7_daysLeft 10 = .ok (.ireturn, 1) := by decide +kernel
theorem d_X7_daysLeft_11 : Dc cX7_daysLeft 11 1 12 (.aload_n 0) := ⟨by decide +kernel, rfl⟩
theorem d_X7_daysLeft_12 : Dc cX7_daysLeft 12 1 13 (.iload_n 1) := ⟨by decide +kernel, rfl⟩
theorem d_X7_daysLeft_13 : Dc cX7_daysLeft 13 1 14 (.iload_n 2) := ⟨by decide +kernel, rfl⟩
theorem d_X7_daysLeft_14 : Dc cX7_daysLeft 14 3 17 (.invokevirtual 73) := ⟨by decide +kernel, rfl⟩
theorem d_X7_daysLeft_17 : Dj cX7_daysLeft 17 20 23 (.ifCond .ne) := ⟨6, by decide +kernel, rfl, by decide⟩
theorem d_X7_daysLeft_20 : Dc cX7_daysLeft 20 2 22 (.bipush (-5)) := ⟨by decide +kernel, rfl⟩
theorem d_X7_daysLeft_22 : decode cX7_daysLeft 22 = .ok (.ireturn, 1) := by decide +kernel
theorem d_X7_daysLeft_23 : Dc cX7_daysLeft 23 1 24 (.aload_n 0) := ⟨by decide +kernel, rfl⟩
theorem d_X7_daysLeft_24 : Dc cX7_daysLeft 24 1 25 (.iload_n 1) := ⟨by decide +kernel, rfl⟩
theorem d_X7_daysLeft_25 : Dc cX7_daysLeft 25 1 26 (.iload_n 2) := ⟨by decide +kernel, rfl⟩
theorem d_X7_daysLeft_26 : Dc cX7_daysLeft 26 1 27 (.iconst 2) := ⟨by decide +kernel, rfl⟩
theorem d_X7_daysLeft_27 : Dc cX7_daysLeft 27 3 30 (.invokevirtual 69) := ⟨by decide +kernel, rfl⟩
theorem d_X7_daysLeft_30 : Dc cX7_daysLeft 30 1 31 (.aload_n 0) := ⟨by decide +kernel, rfl⟩
theorem d_X7_daysLeft_31 : Dc cX7_daysLeft 31 1 32 (.iload_n 1) := ⟨by decide +kernel, rfl⟩
theorem d_X7_daysLeft_32 : Dc cX7_daysLeft 32 1 33 (.iload_n 2) := ⟨by decide +kernel, rfl⟩
theorem d_X7_daysLeft_33 : Dc cX7_daysLeft 33 3 36 (.invokevirtual 89) := ⟨by decide +kernel, rfl⟩
theorem d_X7_daysLeft_36 : Dc cX7_daysLeft 36 1 37 .isub := ⟨by decide +kernel, rfl⟩
theorem d_X7_daysLeft_37 : Dc cX7_daysLeft 37 1 38 (.istore_n 3) := ⟨by decide +kernel, rfl⟩
theorem d_X7_daysLeft_38 : Dc cX7_daysLeft 38 1 39 (.aload_n 0) := ⟨by decide +kernel, rfl⟩
theorem d_X7_daysLeft_39 : Dc cX7_daysLeft 39 1 40 (.iload_n 1) := ⟨by decide +kernel, rfl⟩
theorem d_X7_daysLeft_40 : Dc cX7_daysLeft 40 1 41 (.iload_n 2) := ⟨by decide +kernel, rfl⟩
theorem d_X7_daysLeft_41 : Dc cX7_daysLeft 41 1 42 (.iconst 0) := ⟨by decide +kernel, rfl⟩
theorem d_X7_daysLeft_42 : Dc cX7_daysLeft 42 3 45 (.invokevirtual 69) := ⟨by decide +kernel, rfl⟩
theorem d_X7_daysLeft_45 : Dc cX7_daysLeft 45 1 46 (.aload_n 0) := ⟨by decide +kernel, rfl⟩
theorem d_X7_daysLeft_46 : Dc cX7_daysLeft 46 3 49 (.getfield 7) := ⟨by decide +kernel, rfl⟩
theorem d_X7_daysLeft_49 : Dc cX7_daysLeft 49 3 52 (.sipush 618) := ⟨by decide +kernel, rfl⟩
theorem d_X7_daysLeft_52 : Dc cX7_daysLeft 52 1 53 .iaload := ⟨by decide +kernel, rfl⟩
theorem d_X7_daysLeft_53 : Dj cX7_daysLeft 53 56 66 (.if_icmp .le) := ⟨13, by decide +kernel, rfl, by decide⟩
theorem d_X7_daysLeft_56 : Dc cX7_daysLeft 56 1 57 (.aload_n 0) := ⟨by decide +kernel, rfl⟩
theorem d_X7_daysLeft_57 : Dc cX7_daysLeft 57 1 58 (.iload_n 1) := ⟨by decide +kernel, rfl⟩
theorem d_X7_daysLeft_58 : Dc cX7_daysLeft 58 1 59 (.iload_n 2) := ⟨by decide +kernel, rfl⟩
theorem d_X7_daysLeft_59 : Dc cX7_daysLeft 59 1 60 (.iconst 0) := ⟨by decide +kernel, rfl⟩
theorem d_X7_daysLeft_60 : Dc cX7_daysLeft 60 3 63 (.invokevirtual 69) := ⟨by decide +kernel, rfl⟩
theorem d_X7_daysLeft_63 : Dj cX7_daysLeft 63 66 74 .goto := ⟨11, by decide +kernel, rfl, by decide⟩
theorem d_X7_daysLeft_66 : Dc cX7_daysLeft 66 1 67 (.aload_n 0) := ⟨by decide +kernel, rfl⟩
theorem d_X7_daysLeft_67 : Dc cX7_daysLeft 67 3 70 (.getfield 7) := ⟨by decide +kernel, rfl⟩
theorem d_X7_daysLeft_70 : Dc cX7_daysLeft 70 3 73 (.sipush 618) := ⟨by decide +kernel, rfl⟩
theorem d_X7_daysLeft_73 : Dc cX7_daysLeft 73 1 74 .iaload := ⟨by decide +kernel, rfl⟩
theorem d_X7_daysLeft_74 : Dc cX7_daysLeft 74 2 76 (.istore 4) := ⟨by decide +kernel, rfl⟩
theorem d_X7_daysLeft_76 : Dc cX7_daysLeft 76 1 77 (.aload_n 0) := ⟨by decide +kernel, rfl⟩
theorem d_X7_daysLeft_77 : Dc cX7_daysLeft 77 1 78 (.iload_n 1) := ⟨by decide +kernel, rfl⟩
theorem d_X7_daysLeft_78 : Dc cX7_daysLeft 78 1 79 (.iload_n 2) := ⟨by decide +kernel, rfl⟩
theorem d_X7_daysLeft_79 : Dc cX7_daysLeft 79 1 80 (.iconst 1) := ⟨by decide +kernel, rfl⟩
theorem d_X7_daysLeft_80 : Dc cX7_daysLeft 80 3 83 (.invokevirtual 69) := ⟨by decide +kernel, rfl⟩
theorem d_X7_daysLeft_83 : Dc cX7_daysLeft 83 2 85 (.iload 4) := ⟨by decide +kernel, rfl⟩
theorem d_X7_daysLeft_85 : Dc cX7_daysLeft 85 1 86 .isub := ⟨by decide +kernel, rfl⟩
theorem d_X7_daysLeft_86 : Dc cX7_daysLeft 86 1 87 (.iconst 1) := ⟨by decide +kernel, rfl⟩
theorem d_X7_daysLeft_87 : Dc cX7_daysLeft 87 1 88 .iadd := ⟨by decide +kernel, rfl⟩
theorem d_X7_daysLeft_88 : Dc cX7_daysLeft 88 2 90 (.istore 5) := ⟨by decide +kernel, rfl⟩
theorem d_X7_daysLeft_90 : Dc cX7_daysLeft 90 1 91 (.iload_n 3) := ⟨by decide +kernel, rfl⟩
theorem d_X7_daysLeft_91 : Dc cX7_daysLeft 91 2 93 (.iload 5) := ⟨by decide +kernel, rfl⟩
theorem d_X7_daysLeft_93 : Dj cX7_daysLeft 93 96 100 (.if_icmp .ge) := ⟨7, by decide +kernel, rfl, by decide⟩
theorem d_X7_daysLeft_96 : Dc cX7_daysLeft 96 1 97 (.iload_n 3) := ⟨by decide +kernel, rfl⟩
theorem d_X7_daysLeft_97 : Dj cX7_daysLeft 97 100 102 .goto := ⟨5, by decide +kernel, rfl, by decide⟩
theorem d_X7_daysLeft_100 : Dc cX7_daysLeft 100 2 102 (.iload 5) := ⟨by decide +kernel, rfl⟩
theorem d_X7_daysLeft_102 : Dc cX7_daysLeft 102 2 104 (.istore 6) := ⟨by decide +kernel, rfl⟩
theorem d_X7_daysLeft_104 : Dc cX7_daysLeft 104 2 106 (.iload 6) := ⟨by decide +kernel, rfl⟩
theorem d_X7_daysLeft_106 : Dj cX7_daysLeft 106 109 113 (.ifCond .ge) := ⟨7, by decide +kernel, rfl, by decide⟩
theorem d_X7_daysLeft_109 : Dc cX7_daysLeft 109 1 110 (.iconst 0) := ⟨by decide +kernel, rfl⟩
theorem d_X7_daysLeft_110 : Dj cX7_daysLeft 110 113 115 .goto := ⟨5, by decide +kernel, rfl, by decide⟩
theorem d_X7_daysLeft_113 : Dc cX7_daysLeft 113 2 115 (.iload 6) := ⟨by decide +kernel, rfl⟩
theorem d_X7_daysLeft_115 : decode cX7_daysLeft 115 = .ok (.ireturn, 1) := by decide +kernel
set_option maxHeartbeats 4000000 in
set_option maxRecDepth 20000 in
theorem c_X7_daysLeft {E : Ev} {n : Nat} {M : Mem} {m : Nat} {s : Int → Int} (hs : MS E M m s) (hO : Ok s) {p c : Int} (h1 : rg p) (h2 : rg c) : MT E yX7_daysLeft cX7_daysLeft 7 (some .int) 8 0 0 [.ref m, .int (iI p), .int (iI c)] n M (PF (some (.int (iI (q_daysLeft s p c)))) n M) := by
  refine MT.of (by decide) rfl (Nat.le_of_ble_eq_true rfl) ?_
  intro X g
  have g0 := g.1
  show V E X 0 0 n M 0 [some (.ref m), some (.int (iI p)), some (.int (iI c)), none, none, none, none] []
  obtain ⟨⟨fr, hm⟩, ha⟩ := id hs
  have hmn := hO.many
  refine V.al0 g0 d_X7_daysLeft_0 ?_
  refine V.il1 g0 d_X7_daysLeft_1 ?_
  refine V.il2 g0 d_X7_daysLeft_2 ?_
  refine V.callVp g0 (c_X7_areThere hs h1 h2 hmn) ky_X7_areThere ki_X7_areThere ks2_X7_areThere lk_X7_101 (by assumption) rfl rfl (Nat.le_of_ble_eq_true rfl) ⟨Nat.zero_le _, Nat.zero_le _⟩ rfl rfl (Nat.le_of_ble_eq_true rfl) d_X7_daysLeft_3 ?_
  refine V.ifneB g0 d_X7_daysLeft_6 (fun c_6 => ?_) (fun c_6 => ?_)
  · skip
    have hk := hO.at c_6.1.1 (by omega)
    have hp : 0 ≤ p ∧ p < 6 := by omega
    have hc : 0 ≤ c ∧ c < 6 := by omega
    have hv := hk.vis hc.1 hc.2
    have hbg := hk.bgo
    have hu := usedOn_b2 hk hc.1 hc.2 (s 618)
    refine V.al0 g0 d_X7_daysLeft_11 ?_
    refine V.il1 g0 d_X7_daysLeft_12 ?_
    refine V.il2 g0 d_X7_daysLeft_13 ?_
    refine V.callVp g0 (c_X7_hasVisa hs hk hp hc) ky_X7_hasVisa ki_X7_hasVisa ks2_X7_hasVisa lk_X7_73 (by assumption) rfl rfl (Nat.le_of_ble_eq_true rfl) ⟨Nat.zero_le _, Nat.zero_le _⟩ rfl rfl (Nat.le_of_ble_eq_true rfl) d_X7_daysLeft_14 ?_
    refine V.ifneB g0 d_X7_daysLeft_17 (fun c_17 => ?_) (fun c_17 => ?_)
    · skip
      refine V.al0 g0 d_X7_daysLeft_23 ?_
      refine V.il1 g0 d_X7_daysLeft_24 ?_
      refine V.il2 g0 d_X7_daysLeft_25 ?_
      refine V.iconst g0 d_X7_daysLeft_26 ?_
      refine V.callVp g0 (c_X7_ofVisa hs hp hc (by decide)) ky_X7_ofVisa ki_X7_ofVisa ks2_X7_ofVisa lk_X7_69 (by assumption) rfl rfl (Nat.le_of_ble_eq_true rfl) ⟨Nat.zero_le _, Nat.zero_le _⟩ rfl rfl (Nat.le_of_ble_eq_true rfl) d_X7_daysLeft_27 ?_
      refine V.al0 g0 d_X7_daysLeft_30 ?_
      refine V.il1 g0 d_X7_daysLeft_31 ?_
      refine V.il2 g0 d_X7_daysLeft_32 ?_
      refine V.callVp g0 (c_X7_used hs hk hp hc) ky_X7_used ki_X7_used ks2_X7_used lk_X7_89 (by assumption) rfl rfl (Nat.le_of_ble_eq_true rfl) ⟨Nat.zero_le _, Nat.zero_le _⟩ rfl rfl (Nat.le_of_ble_eq_true rfl) d_X7_daysLeft_33 ?_
      refine V.isub g0 d_X7_daysLeft_36 ?_
      refine V.is3 g0 d_X7_daysLeft_37 ?_
      refine V.al0 g0 d_X7_daysLeft_38 ?_
      refine V.il1 g0 d_X7_daysLeft_39 ?_
      refine V.il2 g0 d_X7_daysLeft_40 ?_
      refine V.iconst g0 d_X7_daysLeft_41 ?_
      refine V.callVp g0 (c_X7_ofVisa hs hp hc (by decide)) ky_X7_ofVisa ki_X7_ofVisa ks2_X7_ofVisa lk_X7_69 (by assumption) rfl rfl (Nat.le_of_ble_eq_true rfl) ⟨Nat.zero_le _, Nat.zero_le _⟩ rfl rfl (Nat.le_of_ble_eq_true rfl) d_X7_daysLeft_42 ?_
      refine V.al0 g0 d_X7_daysLeft_45 ?_
      refine V.getf g0 d_X7_daysLeft_46 fl_X7_7 (by assumption) (by rfl) ?_
      refine V.sipush g0 d_X7_daysLeft_49 (by decide) ?_
      refine V.iald g0 d_X7_daysLeft_52 (by assumption) (by omega) (by decide) ?_
      refine V.icmple g0 d_X7_daysLeft_53 (by omega) (fun c_53 => ?_) (fun c_53 => ?_)
      · skip
        refine V.al0 g0 d_X7_daysLeft_66 ?_
        refine V.getf g0 d_X7_daysLeft_67 fl_X7_7 (by assumption) (by rfl) ?_
        refine V.sipush g0 d_X7_daysLeft_70 (by decide) ?_
        refine V.iald g0 d_X7_daysLeft_73 (by assumption) (by omega) (by decide) ?_
        refine V.is4 g0 d_X7_daysLeft_74 ?_
        refine V.al0 g0 d_X7_daysLeft_76 ?_
        refine V.il1 g0 d_X7_daysLeft_77 ?_
        refine V.il2 g0 d_X7_daysLeft_78 ?_
        refine V.iconst g0 d_X7_daysLeft_79 ?_
        refine V.callVp g0 (c_X7_ofVisa hs hp hc (by decide)) ky_X7_ofVisa ki_X7_ofVisa ks2_X7_ofVisa lk_X7_69 (by assumption) rfl rfl (Nat.le_of_ble_eq_true rfl) ⟨Nat.zero_le _, Nat.zero_le _⟩ rfl rfl (Nat.le_of_ble_eq_true rfl) d_X7_daysLeft_80 ?_
        refine V.il4 g0 d_X7_daysLeft_83 ?_
        refine V.isub g0 d_X7_daysLeft_85 ?_
        refine V.iconst g0 d_X7_daysLeft_86 ?_
        refine V.iadd g0 d_X7_daysLeft_87 ?_
        refine V.is5 g0 d_X7_daysLeft_88 ?_
        refine V.il3 g0 d_X7_daysLeft_90 ?_
        refine V.il5 g0 d_X7_daysLeft_91 ?_
        refine V.icmpge g0 d_X7_daysLeft_93 (by omega) (fun c_93 => ?_) (fun c_93 => ?_)
        · skip
          refine V.il5 g0 d_X7_daysLeft_100 ?_
          refine V.is6 g0 d_X7_daysLeft_102 ?_
          refine V.il6 g0 d_X7_daysLeft_104 ?_
          refine V.ifge g0 d_X7_daysLeft_106 (by omega) (fun c_106 => ?_) (fun c_106 => ?_)
          · skip
            refine V.il6 g0 d_X7_daysLeft_113 ?_
            refine V.iret g d_X7_daysLeft_115 (Nat.zero_le _) (Nat.zero_le _) ⟨congrArg (fun z => some (Value.int (iI z))) ?_, rfl, rfl⟩
            rw [q_daysLeft, if_neg (fun h => h c_6), if_neg (fun h => h c_17)]; omega
          · skip
            refine V.iconst g0 d_X7_daysLeft_109 ?_
            refine V.goto g0 d_X7_daysLeft_110 ?_
            refine V.iret g d_X7_daysLeft_115 (Nat.zero_le _) (Nat.zero_le _) ⟨congrArg (fun z => some (Value.int (iI z))) ?_, rfl, rfl⟩
            rw [q_daysLeft, if_neg (fun h => h c_6), if_neg (fun h => h c_17)]; omega
        · skip
          refine V.il3 g0 d_X7_daysLeft_96 ?_
          refine V.goto g0 d_X7_daysLeft_97 ?_
          refine V.is6 g0 d_X7_daysLeft_102 ?_
          refine V.il6 g0 d_X7_daysLeft_104 ?_
          refine V.ifge g0 d_X7_daysLeft_106 (by omega) (fun c_106 => ?_) (fun c_106 => ?_)
          · skip
            refine V.il6 g0 d_X7_daysLeft_113 ?_
            refine V.iret g d_X7_daysLeft_115 (Nat.zero_le _) (Nat.zero_le _) ⟨congrArg (fun z => some (Value.int (iI z))) ?_, rfl, rfl⟩
            rw [q_daysLeft, if_neg (fun h => h c_6), if_neg (fun h => h c_17)]; omega
          · skip
            refine V.iconst g0 d_X7_daysLeft_109 ?_
            refine V.goto g0 d_X7_daysLeft_110 ?_
            refine V.iret g d_X7_daysLeft_115 (Nat.zero_le _) (Nat.zero_le _) ⟨congrArg (fun z => some (Value.int (iI z))) ?_, rfl, rfl⟩
            rw [q_daysLeft, if_neg (fun h => h c_6), if_neg (fun h => h c_17)]; omega
      · skip
        refine V.al0 g0 d_X7_daysLeft_56 ?_
        refine V.il1 g0 d_X7_daysLeft_57 ?_
        refine V.il2 g0 d_X7_daysLeft_58 ?_
        refine V.iconst g0 d_X7_daysLeft_59 ?_
        refine V.callVp g0 (c_X7_ofVisa hs hp hc (by decide)) ky_X7_ofVisa ki_X7_ofVisa ks2_X7_ofVisa lk_X7_69 (by assumption) rfl rfl (Nat.le_of_ble_eq_true rfl) ⟨Nat.zero_le _, Nat.zero_le _⟩ rfl rfl (Nat.le_of_ble_eq_true rfl) d_X7_daysLeft_60 ?_
        refine V.goto g0 d_X7_daysLeft_63 ?_
        refine V.is4 g0 d_X7_daysLeft_74 ?_
        refine V.al0 g0 d_X7_daysLeft_76 ?_
        refine V.il1 g0 d_X7_daysLeft_77 ?_
        refine V.il2 g0 d_X7_daysLeft_78 ?_
        refine V.iconst g0 d_X7_daysLeft_79 ?_
        refine V.callVp g0 (c_X7_ofVisa hs hp hc (by decide)) ky_X7_ofVisa ki_X7_ofVisa ks2_X7_ofVisa lk_X7_69 (by assumption) rfl rfl (Nat.le_of_ble_eq_true rfl) ⟨Nat.zero_le _, Nat.zero_le _⟩ rfl rfl (Nat.le_of_ble_eq_true rfl) d_X7_daysLeft_80 ?_
        refine V.il4 g0 d_X7_daysLeft_83 ?_
        refine V.isub g0 d_X7_daysLeft_85 ?_
        refine V.iconst g0 d_X7_daysLeft_86 ?_
        refine V.iadd g0 d_X7_daysLeft_87 ?_
        refine V.is5 g0 d_X7_daysLeft_88 ?_
        refine V.il3 g0 d_X7_daysLeft_90 ?_
        refine V.il5 g0 d_X7_daysLeft_91 ?_
        refine V.icmpge g0 d_X7_daysLeft_93 (by omega) (fun c_93 => ?_) (fun c_93 => ?_)
        · skip
          refine V.il5 g0 d_X7_daysLeft_100 ?_
          refine V.is6 g0 d_X7_daysLeft_102 ?_
          refine V.il6 g0 d_X7_daysLeft_104 ?_
          refine V.ifge g0 d_X7_daysLeft_106 (by omega) (fun c_106 => ?_) (fun c_106 => ?_)
          · skip
            refine V.il6 g0 d_X7_daysLeft_113 ?_
            refine V.iret g d_X7_daysLeft_115 (Nat.zero_le _) (Nat.zero_le _) ⟨congrArg (fun z => some (Value.int (iI z))) ?_, rfl, rfl⟩
            rw [q_daysLeft, if_neg (fun h => h c_6), if_neg (fun h => h c_17)]; omega
          · skip
            refine V.iconst g0 d_X7_daysLeft_109 ?_
            refine V.goto g0 d_X7_daysLeft_110 ?_
            refine V.iret g d_X7_daysLeft_115 (Nat.zero_le _) (Nat.zero_le _) ⟨congrArg (fun z => some (Value.int (iI z))) ?_, rfl, rfl⟩
            rw [q_daysLeft, if_neg (fun h => h c_6), if_neg (fun h => h c_17)]; omega
        · skip
          refine V.il3 g0 d_X7_daysLeft_96 ?_
          refine V.goto g0 d_X7_daysLeft_97 ?_
          refine V.is6 g0 d_X7_daysLeft_102 ?_
          refine V.il6 g0 d_X7_daysLeft_104 ?_
          refine V.ifge g0 d_X7_daysLeft_106 (by omega) (fun c_106 => ?_) (fun c_106 => ?_)
          · skip
            refine V.il6 g0 d_X7_daysLeft_113 ?_
            refine V.iret g d_X7_daysLeft_115 (Nat.zero_le _) (Nat.zero_le _) ⟨congrArg (fun z => some (Value.int (iI z))) ?_, rfl, rfl⟩
            rw [q_daysLeft, if_neg (fun h => h c_6), if_neg (fun h => h c_17)]; omega
          · skip
            refine V.iconst g0 d_X7_daysLeft_109 ?_
            refine V.goto g0 d_X7_daysLeft_110 ?_
            refine V.iret g d_X7_daysLeft_115 (Nat.zero_le _) (Nat.zero_le _) ⟨congrArg (fun z => some (Value.int (iI z))) ?_, rfl, rfl⟩
            rw [q_daysLeft, if_neg (fun h => h c_6), if_neg (fun h => h c_17)]; omega
    · skip
      refine V.bipush g0 d_X7_daysLeft_20 (by decide) ?_
      refine V.iret g d_X7_daysLeft_22 (Nat.zero_le _) (Nat.zero_le _) ⟨congrArg (fun z => some (Value.int (iI z))) ?_, rfl, rfl⟩
      rw [q_daysLeft, if_neg (fun h => h c_6), if_pos c_17]
  · skip
    refine V.iconst g0 d_X7_daysLeft_9 ?_
    refine V.iret g d_X7_daysLeft_10 (Nat.zero_le _) (Nat.zero_le _) ⟨congrArg (fun z => some (Value.int (iI z))) ?_, rfl, rfl⟩
    rw [q_daysLeft, if_pos c_6]

theorem d_X7_mistold_0 : Dc cX7_mistold 0 1 1 (.iconst 0) := ⟨by decide +kernel, rfl⟩
theorem d_X7_mistold_1 : Dc cX7_mistold 1 1 2 (.istore_n 1) := ⟨by decide +kernel, rfl⟩
theorem d_X7_mistold_2 : Dc cX7_mistold 2 1 3 (.iconst 0) := ⟨by decide +kernel, rfl⟩
theorem d_X7_mistold_3 : Dc cX7_mistold 3 1 4 (.istore_n 2) := ⟨by decide +kernel, rfl⟩
theorem d_X7_mistold_4 : Dc cX7_mistold 4 1 5 (.iload_n 2) := ⟨by decide +kernel, rfl⟩
theorem d_X7_mistold_5 : Dc cX7_mistold 5 1 6 (.aload_n 0) := ⟨by decide +kernel, rfl⟩
theorem d_X7_mistold_6 : Dc cX7_mistold 6 3 9 (.getfield 7) := ⟨by decide +kernel, rfl⟩
theorem d_X7_mistold_9 : Dc cX7_mistold 9 3 12 (.sipush 619) := ⟨by decide +kernel, rfl⟩
theorem d_X7_mistold_12 : Dc cX7_mistold 12 1 13 .iaload := ⟨by decide +kernel, rfl⟩
theorem d_X7_mistold_13 : Dj cX7_mistold 13 16 46 (.if_icmp .ge) := ⟨33, by decide +kernel, rfl, by decide⟩
theorem d_X7_mistold_16 : Dc cX7_mistold 16 1 17 (.iload_n 1) := ⟨by decide +kernel, rfl⟩
theorem d_X7_mistold_17 : Dc cX7_mistold 17 1 18 (.aload_n 0) := ⟨by decide +kernel, rfl⟩
theorem d_X7_mistold_18 : Dc cX7_mistold 18 1 19 (.iload_n 2) := ⟨by decide +kernel, rfl⟩
theorem d_X7_mistold_19 : Dc cX7_mistold 19 3 22 (.invokevirtual 212) := ⟨by decide +kernel, rfl⟩
theorem d_X7_mistold_22 : Dc cX7_mistold 22 1 23 (.aload_n 0) := ⟨by decide +kernel, rfl⟩
theorem d_X7_mistold_23 : Dc cX7_mistold 23 1 24 (.iload_n 2) := ⟨by decide +kernel, rfl⟩
theorem d_X7_mistold_24 : Dc cX7_mistold 24 1 25 (.iconst 2) := ⟨by decide +kernel, rfl⟩
theorem d_X7_mistold_25 : Dc cX7_mistold 25 3 28 (.invokevirtual 50) := ⟨by decide +kernel, rfl⟩
theorem d_X7_mistold_28 : Dj cX7_mistold 28 31 37 (.if_icmp .eq) := ⟨9, by decide +kernel, rfl, by decide⟩
theorem d_X7_mistold_31 : Dc cX7_mistold 31 1 32 (.iconst 1) := ⟨by decide +kernel, rfl⟩
theorem d_X7_mistold_32 : Dc cX7_mistold 32 1 33 (.iload_n 2) := ⟨by decide +kernel, rfl⟩
theorem d_X7_mistold_33 : Dc cX7_mistold 33 1 34 .ishl := ⟨by decide +kernel, rfl⟩
theorem d_X7_mistold_34 : Dj cX7_mistold 34 37 38 .goto := ⟨4, by decide +kernel, rfl, by decide⟩
theorem d_X7_mistold_37 : Dc cX7_mistold 37 1 38 (.iconst 0) := ⟨by decide +kernel, rfl⟩
theorem d_X7_mistold_38 : Dc cX7_mistold 38 1 39 .ior := ⟨by decide +kernel, rfl⟩
theorem d_X7_mistold_39 : Dc cX7_mistold 39 1 40 (.istore_n 1) := ⟨by decide +kernel, rfl⟩
theorem d_X7_mistold_40 : Dc cX7_mistold 40 3 43 (.iinc 2 1) := ⟨by decide +kernel, rfl⟩
theorem d_X7_mistold_43 : Dj cX7_mistold 43 46 4 .goto := ⟨(-39), by decide +kernel, rfl, by decide⟩
theorem d_X7_mistold_46 : Dc cX7_mistold 46 1 47 (.iload_n 1) := ⟨by decide +kernel, rfl⟩
theorem d_X7_mistold_47 : decode cX7_mistold 47 = .ok (.ireturn, 1) := by decide +kernel
set_option maxHeartbeats 4000000 in
set_option maxRecDepth 20000 in
theorem c_X7_mistold {E : Ev} {n : Nat} {M : Mem} {m : Nat} {s : Int → Int} (hs : MS E M m s) (hO : Ok s) : MT E yX7_mistold cX7_mistold 3 (some .int) 5 0 0 [.ref m] n M (PF (some (.int (iI (q_mistold s)))) n M) := by
  refine MT.of (by decide) rfl (Nat.le_of_ble_eq_true rfl) ?_
  intro X g
  have g0 := g.1
  show V E X 0 0 n M 0 [some (.ref m), none, none] []
  obtain ⟨⟨fr, hm⟩, ha⟩ := id hs
  have hmn := hO.many
  refine V.iconst g0 d_X7_mistold_0 ?_
  refine V.is1 g0 d_X7_mistold_1 ?_
  refine V.iconst g0 d_X7_mistold_2 ?_
  refine V.is2 g0 d_X7_mistold_3 ?_
  have LP : ∀ (f k : Nat) (r : Nat), (k : Int) + f = s 619 → r = misN s k → V E X 0 0 n M 4 [some (.ref m), some (.int (iI (r : Int))), some (.int (iI (k : Int)))] [] := by
    intro f
    induction f using Nat.strongRecOn with
    | _ f ih =>
    intro k r hf hr
    refine V.il2 g0 d_X7_mistold_4 ?_
    refine V.al0 g0 d_X7_mistold_5 ?_
    refine V.getf g0 d_X7_mistold_6 fl_X7_7 (by assumption) (by rfl) ?_
    refine V.sipush g0 d_X7_mistold_9 (by decide) ?_
    refine V.iald g0 d_X7_mistold_12 (by assumption) (by omega) (by decide) ?_
    refine V.icmpge g0 d_X7_mistold_13 (by omega) (fun c_13 => ?_) (fun c_13 => ?_)
    · skip
      refine V.il1 g0 d_X7_mistold_46 ?_
      refine V.iret g d_X7_mistold_47 (Nat.zero_le _) (Nat.zero_le _) ⟨congrArg (fun z => some (Value.int (iI z))) ?_, rfl, rfl⟩
      rw [hr, q_mistold, show k = (s 619).toNat by omega]
    · skip
      have hk := hO.at (p := (k : Int)) (by omega) (by omega)
      have hp : 0 ≤ (k : Int) ∧ (k : Int) < 6 := by omega
      have hw := hk.whr
      have hb := bP_b hk (s (103 * (k : Int) + 8))
      obtain ⟨rr, hrr⟩ : ∃ rr : Nat, rr = (if bP s k (s (103 * k + 8)) ≠ s (103 * k + 2) then 2 ^ k else 0) := ⟨_, rfl⟩
      refine V.il1 g0 d_X7_mistold_16 ?_
      refine V.al0 g0 d_X7_mistold_17 ?_
      refine V.il2 g0 d_X7_mistold_18 ?_
      refine V.callVp g0 (c_X7_toldNow hs hk hp) ky_X7_toldNow ki_X7_toldNow ks2_X7_toldNow lk_X7_212 (by assumption) rfl rfl (Nat.le_of_ble_eq_true rfl) ⟨Nat.zero_le _, Nat.zero_le _⟩ rfl rfl (Nat.le_of_ble_eq_true rfl) d_X7_mistold_19 ?_
      refine V.al0 g0 d_X7_mistold_22 ?_
      refine V.il2 g0 d_X7_mistold_23 ?_
      refine V.iconst g0 d_X7_mistold_24 ?_
      refine V.callVp g0 (c_X7_get hs (by omega)) ky_X7_get ki_X7_get ks2_X7_get lk_X7_50 (by assumption) rfl rfl (Nat.le_of_ble_eq_true rfl) ⟨Nat.zero_le _, Nat.zero_le _⟩ rfl rfl (Nat.le_of_ble_eq_true rfl) d_X7_mistold_25 ?_
      refine V.icmpeq g0 d_X7_mistold_28 (by omega) (fun c_28 => ?_) (fun c_28 => ?_)
      · skip
        have hrr2 := hrr
        rw [if_neg (fun h => h c_28)] at hrr2
        refine V.iconst g0 d_X7_mistold_37 ?_
        refine V.ior g0 d_X7_mistold_38 (hrr2 ▸ iI_or : iI (r : Int) ||| _ = iI ((r ||| rr : Nat) : Int)) ?_
        refine V.is1 g0 d_X7_mistold_39 ?_
        refine V.inc2 g0 d_X7_mistold_40 ?_
        refine V.goto g0 d_X7_mistold_43 ?_
        exact ih (f - 1) (by omega) (k + 1) (r ||| rr) (by omega) (by rw [misN, hr, hrr])
      · skip
        have hrr2 := hrr
        rw [if_pos c_28] at hrr2
        refine V.iconst g0 d_X7_mistold_31 ?_
        refine V.il2 g0 d_X7_mistold_32 ?_
        refine V.ishl g0 d_X7_mistold_33 (iI_shl1n (by omega)) ?_
        refine V.goto g0 d_X7_mistold_34 ?_
        refine V.ior g0 d_X7_mistold_38 (hrr2 ▸ iI_or : iI (r : Int) ||| _ = iI ((r ||| rr : Nat) : Int)) ?_
        refine V.is1 g0 d_X7_mistold_39 ?_
        refine V.inc2 g0 d_X7_mistold_40 ?_
        refine V.goto g0 d_X7_mistold_43 ?_
        exact ih (f - 1) (by omega) (k + 1) (r ||| rr) (by omega) (by rw [misN, hr, hrr])
  exact LP (s 619).toNat 0 0 (by omega) rfl

theorem d_X7_holders_0 : Dc cX7_holders 0 1 1 (.iload_n 1) := ⟨by decide +kernel, rfl⟩
theorem d_X7_holders_1 : Dc cX7_holders 1 3 4 (.invokestatic 40) := ⟨by decide +kernel, rfl⟩
theorem d_X7_holders_4 : Dj cX7_holders 4 7 9 (.ifCond .ne) := ⟨5, by decide +kernel, rfl, by decide⟩
theorem d_X7_holders_7 : Dc cX7_holders 7 1 8 (.iconst (-1)) := ⟨by decide +kernel, rfl⟩
theorem d_X7_holders_8 : decode cX7_holders 8 = .ok (.ireturn, 1) := by decide +kernel
theorem d_X7_holders_9 : Dc cX7_holders 9 1 10 (.iconst 0) := ⟨by decide +kernel, rfl⟩
theorem d_X7_holders_10 : Dc cX7_holders 10 1 11 (.istore_n 3) := ⟨by decide +kernel, rfl⟩
theorem d_X7_holders_11 : Dc cX7_holders 11 1 12 (.iconst 0) := ⟨by decide +kernel, rfl⟩
theorem d_X7_holders_12 : Dc cX7_holders 12 2 14 (.istore 4) := ⟨by decide +kernel, rfl⟩
theorem d_X7_holders_14 : Dc cX7_holders 14 2 16 (.iload 4) := ⟨by decide +kernel, rfl⟩
theorem d_X7_holders_16 : Dc cX7_holders 16 1 17 (.aload_n 0) := ⟨by decide +kernel, rfl⟩
theorem d_X7_holders_17 : Dc cX7_holders 17 3 20 (.getfield 7) := ⟨by decide +kernel, rfl⟩
theorem d_X7_holders_20 : Dc cX7_holders 20 3 23 (.sipush 619) := ⟨by decide +kernel, rfl⟩
theorem d_X7_holders_23 : Dc cX7_holders 23 1 24 .iaload := ⟨by decide +kernel, rfl⟩
theorem d_X7_holders_24 : Dj cX7_holders 24 27 68 (.if_icmp .ge) := ⟨44, by decide +kernel, rfl, by decide⟩
theorem d_X7_holders_27 : Dc cX7_holders 27 1 28 (.iload_n 3) := ⟨by decide +kernel, rfl⟩
theorem d_X7_holders_28 : Dc cX7_holders 28 1 29 (.iload_n 2) := ⟨by decide +kernel, rfl⟩
theorem d_X7_holders_29 : Dj cX7_holders 29 32 41 (.ifCond .eq) := ⟨12, by decide +kernel, rfl, by decide⟩
theorem d_X7_holders_32 : Dc cX7_holders 32 1 33 (.aload_n 0) := ⟨by decide +kernel, rfl⟩
theorem d_X7_holders_33 : Dc cX7_holders 33 2 35 (.iload 4) := ⟨by decide +kernel, rfl⟩
theorem d_X7_holders_35 : Dc cX7_holders 35 3 38 (.invokevirtual 212) := ⟨by decide +kernel, rfl⟩
theorem d_X7_holders_38 : Dj cX7_holders 38 41 48 .goto := ⟨10, by decide +kernel, rfl, by decide⟩
theorem d_X7_holders_41 : Dc cX7_holders 41 1 42 (.aload_n 0) := ⟨by decide +kernel, rfl⟩
theorem d_X7_holders_42 : Dc cX7_holders 42 2 44 (.iload 4) := ⟨by decide +kernel, rfl⟩
theorem d_X7_holders_44 : Dc cX7_holders 44 1 45 (.iconst 2) := ⟨by decide +kernel, rfl⟩
theorem d_X7_holders_45 : Dc cX7_holders 45 3 48 (.invokevirtual 50) := ⟨by decide +kernel, rfl⟩
theorem d_X7_holders_48 : Dc cX7_holders 48 1 49 (.iload_n 1) := ⟨by decide +kernel, rfl⟩
theorem d_X7_holders_49 : Dj cX7_holders 49 52 59 (.if_icmp .ne) := ⟨10, by decide +kernel, rfl, by decide⟩
theorem d_X7_holders_52 : Dc cX7_holders 52 1 53 (.iconst 1) := ⟨by decide +kernel, rfl⟩
theorem d_X7_holders_53 : Dc cX7_holders 53 2 55 (.iload 4) := ⟨by decide +kernel, rfl⟩
theorem d_X7_holders_55 : Dc cX7_holders 55 1 56 .ishl := ⟨by decide +kernel, rfl⟩
theorem d_X7_holders_56 : Dj cX7_holders 56 59 60 .goto := ⟨4, by decide +kernel, rfl, by decide⟩
theorem d_X7_holders_59 : Dc cX7_holders 59 1 60 (.iconst 0) := ⟨by decide +kernel, rfl⟩
theorem d_X7_holders_60 : Dc cX7_holders 60 1 61 .ior := ⟨by decide +kernel, rfl⟩
theorem d_X7_holders_61 : Dc cX7_holders 61 1 62 (.istore_n 3) := ⟨by decide +kernel, rfl⟩
theorem d_X7_holders_62 : Dc cX7_holders 62 3 65 (.iinc 4 1) := ⟨by decide +kernel, rfl⟩
theorem d_X7_holders_65 : Dj cX7_holders 65 68 14 .goto := ⟨(-51), by decide +kernel, rfl, by decide⟩
theorem d_X7_holders_68 : Dc cX7_holders 68 1 69 (.iload_n 3) := ⟨by decide +kernel, rfl⟩
theorem d_X7_holders_69 : decode cX7_holders 69 = .ok (.ireturn, 1) := by decide +kernel
set_option maxHeartbeats 4000000 in
set_option maxRecDepth 20000 in
theorem c_X7_holders {E : Ev} {n : Nat} {M : Mem} {m : Nat} {s : Int → Int} (hs : MS E M m s) (hO : Ok s) {c t : Int} (h1 : rg c) (h2 : t = 0 ∨ t = 1) : MT E yX7_holders cX7_holders 5 (some .int) 5 0 0 [.ref m, .int (iI c), .int (iI t)] n M (PF (some (.int (iI (q_holders s c t)))) n M) := by
  refine MT.of (by decide) rfl (Nat.le_of_ble_eq_true rfl) ?_
  intro X g
  have g0 := g.1
  show V E X 0 0 n M 0 [some (.ref m), some (.int (iI c)), some (.int (iI t)), none, none] []
  obtain ⟨⟨fr, hm⟩, ha⟩ := id hs
  have hmn := hO.many
  refine V.il1 g0 d_X7_holders_0 ?_
  refine V.callSp g0 (c_X7_isCountry h1) ky_X7_isCountry ks_X7_isCountry lk_X7_40 (Nat.le_of_ble_eq_true rfl) ⟨Nat.zero_le _, Nat.zero_le _⟩ rfl rfl (Nat.le_of_ble_eq_true rfl) d_X7_holders_1 ?_
  refine V.ifneB g0 d_X7_holders_4 (fun c_4 => ?_) (fun c_4 => ?_)
  · skip
    refine V.iconst g0 d_X7_holders_9 ?_
    refine V.is3 g0 d_X7_holders_10 ?_
    refine V.iconst g0 d_X7_holders_11 ?_
    refine V.is4 g0 d_X7_holders_12 ?_
    have LP : ∀ (f k : Nat) (r : Nat), (k : Int) + f = s 619 → r = hldN s c t k → V E X 0 0 n M 14 [some (.ref m), some (.int (iI c)), some (.int (iI t)), some (.int (iI (r : Int))), some (.int (iI (k : Int)))] [] := by
      intro f
      induction f using Nat.strongRecOn with
      | _ f ih =>
      intro k r hf hr
      refine V.il4 g0 d_X7_holders_14 ?_
      refine V.al0 g0 d_X7_holders_16 ?_
      refine V.getf g0 d_X7_holders_17 fl_X7_7 (by assumption) (by rfl) ?_
      refine V.sipush g0 d_X7_holders_20 (by decide) ?_
      refine V.iald g0 d_X7_holders_23 (by assumption) (by omega) (by decide) ?_
      refine V.icmpge g0 d_X7_holders_24 (by omega) (fun c_24 => ?_) (fun c_24 => ?_)
      · skip
        refine V.il3 g0 d_X7_holders_68 ?_
        refine V.iret g d_X7_holders_69 (Nat.zero_le _) (Nat.zero_le _) ⟨congrArg (fun z => some (Value.int (iI z))) ?_, rfl, rfl⟩
        rw [hr, q_holders, if_neg (fun h => h c_4), show k = (s 619).toNat by omega]
      · skip
        have hk := hO.at (p := (k : Int)) (by omega) (by omega)
        have hp : 0 ≤ (k : Int) ∧ (k : Int) < 6 := by omega
        have hw := hk.whr
        have hb := bP_b hk (s (103 * (k : Int) + 8))
        obtain ⟨rr, hrr⟩ : ∃ rr : Nat, rr = (if (if t = 0 then s (103 * k + 2) else bP s k (s (103 * k + 8))) = c then 2 ^ k else 0) := ⟨_, rfl⟩
        refine V.il3 g0 d_X7_holders_27 ?_
        refine V.il2 g0 d_X7_holders_28 ?_
        refine V.ifeq g0 d_X7_holders_29 (by omega) (fun c_29 => ?_) (fun c_29 => ?_)
        · skip
          have hrr2 := hrr
          rw [if_pos c_29] at hrr2
          refine V.al0 g0 d_X7_holders_41 ?_
          refine V.il4 g0 d_X7_holders_42 ?_
          refine V.iconst g0 d_X7_holders_44 ?_
          refine V.callVp g0 (c_X7_get hs (by omega)) ky_X7_get ki_X7_get ks2_X7_get lk_X7_50 (by assumption) rfl rfl (Nat.le_of_ble_eq_true rfl) ⟨Nat.zero_le _, Nat.zero_le _⟩ rfl rfl (Nat.le_of_ble_eq_true rfl) d_X7_holders_45 ?_
          refine V.il1 g0 d_X7_holders_48 ?_
          refine V.icmpne g0 d_X7_holders_49 (by omega) (fun c_49 => ?_) (fun c_49 => ?_)
          · skip
            rw [if_neg c_49] at hrr2
            refine V.iconst g0 d_X7_holders_59 ?_
            refine V.ior g0 d_X7_holders_60 (hrr2 ▸ iI_or : iI (r : Int) ||| _ = iI ((r ||| rr : Nat) : Int)) ?_
            refine V.is3 g0 d_X7_holders_61 ?_
            refine V.inc4 g0 d_X7_holders_62 ?_
            refine V.goto g0 d_X7_holders_65 ?_
            exact ih (f - 1) (by omega) (k + 1) (r ||| rr) (by omega) (by rw [hldN, hr, hrr])
          · skip
            rw [if_pos c_49] at hrr2
            refine V.iconst g0 d_X7_holders_52 ?_
            refine V.il4 g0 d_X7_holders_53 ?_
            refine V.ishl g0 d_X7_holders_55 (iI_shl1n (by omega)) ?_
            refine V.goto g0 d_X7_holders_56 ?_
            refine V.ior g0 d_X7_holders_60 (hrr2 ▸ iI_or : iI (r : Int) ||| _ = iI ((r ||| rr : Nat) : Int)) ?_
            refine V.is3 g0 d_X7_holders_61 ?_
            refine V.inc4 g0 d_X7_holders_62 ?_
            refine V.goto g0 d_X7_holders_65 ?_
            exact ih (f - 1) (by omega) (k + 1) (r ||| rr) (by omega) (by rw [hldN, hr, hrr])
        · skip
          have hrr2 := hrr
          rw [if_neg c_29] at hrr2
          refine V.al0 g0 d_X7_holders_32 ?_
          refine V.il4 g0 d_X7_holders_33 ?_
          refine V.callVp g0 (c_X7_toldNow hs hk hp) ky_X7_toldNow ki_X7_toldNow ks2_X7_toldNow lk_X7_212 (by assumption) rfl rfl (Nat.le_of_ble_eq_true rfl) ⟨Nat.zero_le _, Nat.zero_le _⟩ rfl rfl (Nat.le_of_ble_eq_true rfl) d_X7_holders_35 ?_
          refine V.goto g0 d_X7_holders_38 ?_
          refine V.il1 g0 d_X7_holders_48 ?_
          refine V.icmpne g0 d_X7_holders_49 (by omega) (fun c_49 => ?_) (fun c_49 => ?_)
          · skip
            rw [if_neg c_49] at hrr2
            refine V.iconst g0 d_X7_holders_59 ?_
            refine V.ior g0 d_X7_holders_60 (hrr2 ▸ iI_or : iI (r : Int) ||| _ = iI ((r ||| rr : Nat) : Int)) ?_
            refine V.is3 g0 d_X7_holders_61 ?_
            refine V.inc4 g0 d_X7_holders_62 ?_
            refine V.goto g0 d_X7_holders_65 ?_
            exact ih (f - 1) (by omega) (k + 1) (r ||| rr) (by omega) (by rw [hldN, hr, hrr])
          · skip
            rw [if_pos c_49] at hrr2
            refine V.iconst g0 d_X7_holders_52 ?_
            refine V.il4 g0 d_X7_holders_53 ?_
            refine V.ishl g0 d_X7_holders_55 (iI_shl1n (by omega)) ?_
            refine V.goto g0 d_X7_holders_56 ?_
            refine V.ior g0 d_X7_holders_60 (hrr2 ▸ iI_or : iI (r : Int) ||| _ = iI ((r ||| rr : Nat) : Int)) ?_
            refine V.is3 g0 d_X7_holders_61 ?_
            refine V.inc4 g0 d_X7_holders_62 ?_
            refine V.goto g0 d_X7_holders_65 ?_
            exact ih (f - 1) (by omega) (k + 1) (r ||| rr) (by omega) (by rw [hldN, hr, hrr])
    exact LP (s 619).toNat 0 0 (by omega) rfl
  · skip
    refine V.iconst g0 d_X7_holders_7 ?_
    refine V.iret g d_X7_holders_8 (Nat.zero_le _) (Nat.zero_le _) ⟨congrArg (fun z => some (Value.int (iI z))) ?_, rfl, rfl⟩
    rw [q_holders, if_pos c_4]

theorem d_X7_sumOf_0 : Dc cX7_sumOf 0 1 1 (.iconst 0) := ⟨by decide +kernel, rfl⟩
theorem d_X7_sumOf_1 : Dc cX7_sumOf 1 1 2 (.istore_n 2) := ⟨by decide +kernel, rfl⟩
theorem d_X7_sumOf_2 : Dc cX7_sumOf 2 1 3 (.iconst 0) := ⟨by decide +kernel, rfl⟩
theorem d_X7_sumOf_3 : Dc cX7_sumOf 3 1 4 (.istore_n 3) := ⟨by decide +kernel, rfl⟩
theorem d_X7_sumOf_4 : Dc cX7_sumOf 4 1 5 (.iload_n 3) := ⟨by decide +kernel, rfl⟩
theorem d_X7_sumOf_5 : Dc cX7_sumOf 5 1 6 (.aload_n 0) := ⟨by decide +kernel, rfl⟩
theorem d_X7_sumOf_6 : Dc cX7_sumOf 6 3 9 (.getfield 7) := ⟨by decide +kernel, rfl⟩
theorem d_X7_sumOf_9 : Dc cX7_sumOf 9 3 12 (.sipush 619) := ⟨by decide +kernel, rfl⟩
theorem d_X7_sumOf_12 : Dc cX7_sumOf 12 1 13 .iaload := ⟨by decide +kernel, rfl⟩
theorem d_X7_sumOf_13 : Dj cX7_sumOf 13 16 98 (.if_icmp .ge) := ⟨85, by decide +kernel, rfl, by decide⟩
theorem d_X7_sumOf_16 : Dc cX7_sumOf 16 1 17 (.iload_n 2) := ⟨by decide +kernel, rfl⟩
theorem d_X7_sumOf_17 : Dc cX7_sumOf 17 1 18 (.iload_n 1) := ⟨by decide +kernel, rfl⟩
theorem d_X7_sumOf_18 : Dc cX7_sumOf 18 1 19 (.iconst 3) := ⟨by decide +kernel, rfl⟩
theorem d_X7_sumOf_19 : Dj cX7_sumOf 19 22 31 (.if_icmp .ne) := ⟨12, by decide +kernel, rfl, by decide⟩
theorem d_X7_sumOf_22 : Dc cX7_sumOf 22 1 23 (.aload_n 0) := ⟨by decide +kernel, rfl⟩
theorem d_X7_sumOf_23 : Dc cX7_sumOf 23 1 24 (.iload_n 3) := ⟨by decide +kernel, rfl⟩
theorem d_X7_sumOf_24 : Dc cX7_sumOf 24 1 25 (.iconst 3) := ⟨by decide +kernel, rfl⟩
theorem d_X7_sumOf_25 : Dc cX7_sumOf 25 3 28 (.invokevirtual 50) := ⟨by decide +kernel, rfl⟩
theorem d_X7_sumOf_28 : Dj cX7_sumOf 28 31 90 .goto := ⟨62, by decide +kernel, rfl, by decide⟩
theorem d_X7_sumOf_31 : Dc cX7_sumOf 31 1 32 (.iload_n 1) := ⟨by decide +kernel, rfl⟩
theorem d_X7_sumOf_32 : Dc cX7_sumOf 32 1 33 (.iconst 4) := ⟨by decide +kernel, rfl⟩
theorem d_X7_sumOf_33 : Dj cX7_sumOf 33 36 45 (.if_icmp .ne) := ⟨12, by decide +kernel, rfl, by decide⟩
theorem d_X7_sumOf_36 : Dc cX7_sumOf 36 1 37 (.aload_n 0) := ⟨by decide +kernel, rfl⟩
theorem d_X7_sumOf_37 : Dc cX7_sumOf 37 1 38 (.iload_n 3) := ⟨by decide +kernel, rfl⟩
theorem d_X7_sumOf_38 : Dc cX7_sumOf 38 1 39 (.iconst 4) := ⟨by decide +kernel, rfl⟩
theorem d_X7_sumOf_39 : Dc cX7_sumOf 39 3 42 (.invokevirtual 50) := ⟨by decide +kernel, rfl⟩
theorem d_X7_sumOf_42 : Dj cX7_sumOf 42 45 90 .goto := ⟨48, by decide +kernel, rfl, by decide⟩
theorem d_X7_sumOf_45 : Dc cX7_sumOf 45 1 46 (.iload_n 1) := ⟨by decide +kernel, rfl⟩
theorem d_X7_sumOf_46 : Dc cX7_sumOf 46 1 47 (.iconst 5) := ⟨by decide +kernel, rfl⟩
theorem d_X7_sumOf_47 : Dj cX7_sumOf 47 50 60 (.if_icmp .ne) := ⟨13, by decide +kernel, rfl, by decide⟩
theorem d_X7_sumOf_50 : Dc cX7_sumOf 50 1 51 (.aload_n 0) := ⟨by decide +kernel, rfl⟩
theorem d_X7_sumOf_51 : Dc cX7_sumOf 51 1 52 (.iload_n 3) := ⟨by decide +kernel, rfl⟩
theorem d_X7_sumOf_52 : Dc cX7_sumOf 52 2 54 (.bipush 8) := ⟨by decide +kernel, rfl⟩
theorem d_X7_sumOf_54 : Dc cX7_sumOf 54 3 57 (.invokevirtual 50) := ⟨by decide +kernel, rfl⟩
theorem d_X7_sumOf_57 : Dj cX7_sumOf 57 60 90 .goto := ⟨33, by decide +kernel, rfl, by decide⟩
theorem d_X7_sumOf_60 : Dc cX7_sumOf 60 1 61 (.iload_n 1) := ⟨by decide +kernel, rfl⟩
theorem d_X7_sumOf_61 : Dc cX7_sumOf 61 2 63 (.bipush 6) := ⟨by decide +kernel, rfl⟩
theorem d_X7_sumOf_63 : Dj cX7_sumOf 63 66 74 (.if_icmp .ne) := ⟨11, by decide +kernel, rfl, by decide⟩
theorem d_X7_sumOf_66 : Dc cX7_sumOf 66 1 67 (.aload_n 0) := ⟨by decide +kernel, rfl⟩
theorem d_X7_sumOf_67 : Dc cX7_sumOf 67 1 68 (.iload_n 3) := ⟨by decide +kernel, rfl⟩
theorem d_X7_sumOf_68 : Dc cX7_sumOf 68 3 71 (.invokevirtual 215) := ⟨by decide +kernel, rfl⟩
theorem d_X7_sumOf_71 : Dj cX7_sumOf 71 74 90 .goto := ⟨19, by decide +kernel, rfl, by decide⟩
theorem d_X7_sumOf_74 : Dc cX7_sumOf 74 1 75 (.aload_n 0) := ⟨by decide +kernel, rfl⟩
theorem d_X7_sumOf_75 : Dc cX7_sumOf 75 1 76 (.iload_n 3) := ⟨by decide +kernel, rfl⟩
theorem d_X7_sumOf_76 : Dc cX7_sumOf 76 1 77 (.iload_n 1) := ⟨by decide +kernel, rfl⟩
theorem d_X7_sumOf_77 : Dc cX7_sumOf 77 2 79 (.bipush 8) := ⟨by decide +kernel, rfl⟩
theorem d_X7_sumOf_79 : Dj cX7_sumOf 79 82 86 (.if_icmp .ne) := ⟨7, by decide +kernel, rfl, by decide⟩
theorem d_X7_sumOf_82 : Dc cX7_sumOf 82 1 83 (.iconst 1) := ⟨by decide +kernel, rfl⟩
theorem d_X7_sumOf_83 : Dj cX7_sumOf 83 86 87 .goto := ⟨4, by decide +kernel, rfl, by decide⟩
theorem d_X7_sumOf_86 : Dc cX7_sumOf 86 1 87 (.iconst 0) := ⟨by decide +kernel, rfl⟩
theorem d_X7_sumOf_87 : Dc cX7_sumOf 87 3 90 (.invokevirtual 218) := ⟨by decide +kernel, rfl⟩
theorem d_X7_sumOf_90 : Dc cX7_sumOf 90 1 91 .iadd := ⟨by decide +kernel, rfl⟩
theorem d_X7_sumOf_91 : Dc cX7_sumOf 91 1 92 (.istore_n 2) := ⟨by decide +kernel, rfl⟩
theorem d_X7_sumOf_92 : Dc cX7_sumOf 92 3 95 (.iinc 3 1) := ⟨by decide +kernel, rfl⟩
theorem d_X7_sumOf_95 : Dj cX7_sumOf 95 98 4 .goto := ⟨(-91), by decide +kernel, rfl, by decide⟩
theorem d_X7_sumOf_98 : Dc cX7_sumOf 98 1 99 (.iload_n 2) := ⟨by decide +kernel, rfl⟩
theorem d_X7_sumOf_99 : decode cX7_sumOf 99 = .ok (.ireturn, 1) := by decide +kernel
set_option maxHeartbeats 4000000 in
set_option maxRecDepth 20000 in
theorem c_X7_sumOf {E : Ev} {n : Nat} {M : Mem} {m : Nat} {s : Int → Int} (hs : MS E M m s) (hO : Ok s) {w : Int} (h1 : rg w) : MT E yX7_sumOf cX7_sumOf 4 (some .int) 6 0 0 [.ref m, .int (iI w)] n M (PF (some (.int (iI (sumOf s w)))) n M) := by
  refine MT.of (by decide) rfl (Nat.le_of_ble_eq_true rfl) ?_
  intro X g
  have g0 := g.1
  show V E X 0 0 n M 0 [some (.ref m), some (.int (iI w)), none, none] []
  obtain ⟨⟨fr, hm⟩, ha⟩ := id hs
  have hmn := hO.many
  refine V.iconst g0 d_X7_sumOf_0 ?_
  refine V.is2 g0 d_X7_sumOf_1 ?_
  refine V.iconst g0 d_X7_sumOf_2 ?_
  refine V.is3 g0 d_X7_sumOf_3 ?_
  have LP : ∀ (f i : Nat) (t : Int), (i : Int) + f = s 619 → t = sumI (fun p => valF s w p) i → V E X 0 0 n M 4 [some (.ref m), some (.int (iI w)), some (.int (iI t)), some (.int (iI (i : Int)))] [] := by
    intro f
    induction f using Nat.strongRecOn with
    | _ f ih =>
    intro i t hf ht
    refine V.il3 g0 d_X7_sumOf_4 ?_
    refine V.al0 g0 d_X7_sumOf_5 ?_
    refine V.getf g0 d_X7_sumOf_6 fl_X7_7 (by assumption) (by rfl) ?_
    refine V.sipush g0 d_X7_sumOf_9 (by decide) ?_
    refine V.iald g0 d_X7_sumOf_12 (by assumption) (by omega) (by decide) ?_
    refine V.icmpge g0 d_X7_sumOf_13 (by omega) (fun c_13 => ?_) (fun c_13 => ?_)
    · skip
      refine V.il2 g0 d_X7_sumOf_98 ?_
      refine V.iret g d_X7_sumOf_99 (Nat.zero_le _) (Nat.zero_le _) ⟨congrArg (fun z => some (Value.int (iI z))) ?_, rfl, rfl⟩
      rw [ht, sumOf]; congr 1; omega
    · skip
      have hk := hO.at (p := (i : Int)) (by omega) (by omega)
      have hp : 0 ≤ (i : Int) ∧ (i : Int) < 6 := by omega
      refine V.il2 g0 d_X7_sumOf_16 ?_
      refine V.il1 g0 d_X7_sumOf_17 ?_
      refine V.iconst g0 d_X7_sumOf_18 ?_
      refine V.icmpne g0 d_X7_sumOf_19 (by omega) (fun c_19 => ?_) (fun c_19 => ?_)
      · skip
        refine V.il1 g0 d_X7_sumOf_31 ?_
        refine V.iconst g0 d_X7_sumOf_32 ?_
        refine V.icmpne g0 d_X7_sumOf_33 (by omega) (fun c_33 => ?_) (fun c_33 => ?_)
        · skip
          refine V.il1 g0 d_X7_sumOf_45 ?_
          refine V.iconst g0 d_X7_sumOf_46 ?_
          refine V.icmpne g0 d_X7_sumOf_47 (by omega) (fun c_47 => ?_) (fun c_47 => ?_)
          · skip
            refine V.il1 g0 d_X7_sumOf_60 ?_
            refine V.bipush g0 d_X7_sumOf_61 (by decide) ?_
            refine V.icmpne g0 d_X7_sumOf_63 (by omega) (fun c_63 => ?_) (fun c_63 => ?_)
            · skip
              refine V.al0 g0 d_X7_sumOf_74 ?_
              refine V.il3 g0 d_X7_sumOf_75 ?_
              refine V.il1 g0 d_X7_sumOf_76 ?_
              refine V.bipush g0 d_X7_sumOf_77 (by decide) ?_
              refine V.icmpne g0 d_X7_sumOf_79 (by omega) (fun c_79 => ?_) (fun c_79 => ?_)
              · skip
                refine V.iconst g0 d_X7_sumOf_86 ?_
                refine V.callVp g0 (c_X7_visas hs hk hp (Or.inl rfl)) ky_X7_visas ki_X7_visas ks2_X7_visas lk_X7_218 (by assumption) rfl rfl (Nat.le_of_ble_eq_true rfl) ⟨Nat.zero_le _, Nat.zero_le _⟩ rfl rfl (Nat.le_of_ble_eq_true rfl) d_X7_sumOf_87 ?_
                refine V.iadd g0 d_X7_sumOf_90 ?_
                refine V.is2 g0 d_X7_sumOf_91 ?_
                refine V.inc3 g0 d_X7_sumOf_92 ?_
                refine V.goto g0 d_X7_sumOf_95 ?_
                exact ih (f - 1) (by omega) (i + 1) _ (by omega) (by rw [sumI_s, ht, valF, if_neg c_19, if_neg c_33, if_neg c_47, if_neg c_63, if_neg c_79])
              · skip
                refine V.iconst g0 d_X7_sumOf_82 ?_
                refine V.goto g0 d_X7_sumOf_83 ?_
                refine V.callVp g0 (c_X7_visas hs hk hp (Or.inr rfl)) ky_X7_visas ki_X7_visas ks2_X7_visas lk_X7_218 (by assumption) rfl rfl (Nat.le_of_ble_eq_true rfl) ⟨Nat.zero_le _, Nat.zero_le _⟩ rfl rfl (Nat.le_of_ble_eq_true rfl) d_X7_sumOf_87 ?_
                refine V.iadd g0 d_X7_sumOf_90 ?_
                refine V.is2 g0 d_X7_sumOf_91 ?_
                refine V.inc3 g0 d_X7_sumOf_92 ?_
                refine V.goto g0 d_X7_sumOf_95 ?_
                exact ih (f - 1) (by omega) (i + 1) _ (by omega) (by rw [sumI_s, ht, valF, if_neg c_19, if_neg c_33, if_neg c_47, if_neg c_63, if_pos c_79])
            · skip
              refine V.al0 g0 d_X7_sumOf_66 ?_
              refine V.il3 g0 d_X7_sumOf_67 ?_
              refine V.callVp g0 (c_X7_gapsOf hs hk hp) ky_X7_gapsOf ki_X7_gapsOf ks2_X7_gapsOf lk_X7_215 (by assumption) rfl rfl (Nat.le_of_ble_eq_true rfl) ⟨Nat.zero_le _, Nat.zero_le _⟩ rfl rfl (Nat.le_of_ble_eq_true rfl) d_X7_sumOf_68 ?_
              refine V.goto g0 d_X7_sumOf_71 ?_
              refine V.iadd g0 d_X7_sumOf_90 ?_
              refine V.is2 g0 d_X7_sumOf_91 ?_
              refine V.inc3 g0 d_X7_sumOf_92 ?_
              refine V.goto g0 d_X7_sumOf_95 ?_
              exact ih (f - 1) (by omega) (i + 1) _ (by omega) (by rw [sumI_s, ht, valF, if_neg c_19, if_neg c_33, if_neg c_47, if_pos c_63])
          · skip
            refine V.al0 g0 d_X7_sumOf_50 ?_
            refine V.il3 g0 d_X7_sumOf_51 ?_
            refine V.bipush g0 d_X7_sumOf_52 (by decide) ?_
            refine V.callVp g0 (c_X7_get hs (by omega)) ky_X7_get ki_X7_get ks2_X7_get lk_X7_50 (by assumption) rfl rfl (Nat.le_of_ble_eq_true rfl) ⟨Nat.zero_le _, Nat.zero_le _⟩ rfl rfl (Nat.le_of_ble_eq_true rfl) d_X7_sumOf_54 ?_
            refine V.goto g0 d_X7_sumOf_57 ?_
            refine V.iadd g0 d_X7_sumOf_90 ?_
            refine V.is2 g0 d_X7_sumOf_91 ?_
            refine V.inc3 g0 d_X7_sumOf_92 ?_
            refine V.goto g0 d_X7_sumOf_95 ?_
            exact ih (f - 1) (by omega) (i + 1) _ (by omega) (by rw [sumI_s, ht, valF, if_neg c_19, if_neg c_33, if_pos c_47])
        · skip
          refine V.al0 g0 d_X7_sumOf_36 ?_
          refine V.il3 g0 d_X7_sumOf_37 ?_
          refine V.iconst g0 d_X7_sumOf_38 ?_
          refine V.callVp g0 (c_X7_get hs (by omega)) ky_X7_get ki_X7_get ks2_X7_get lk_X7_50 (by assumption) rfl rfl (Nat.le_of_ble_eq_true rfl) ⟨Nat.zero_le _, Nat.zero_le _⟩ rfl rfl (Nat.le_of_ble_eq_true rfl) d_X7_sumOf_39 ?_
          refine V.goto g0 d_X7_sumOf_42 ?_
          refine V.iadd g0 d_X7_sumOf_90 ?_
          refine V.is2 g0 d_X7_sumOf_91 ?_
          refine V.inc3 g0 d_X7_sumOf_92 ?_
          refine V.goto g0 d_X7_sumOf_95 ?_
          exact ih (f - 1) (by omega) (i + 1) _ (by omega) (by rw [sumI_s, ht, valF, if_neg c_19, if_pos c_33])
      · skip
        refine V.al0 g0 d_X7_sumOf_22 ?_
        refine V.il3 g0 d_X7_sumOf_23 ?_
        refine V.iconst g0 d_X7_sumOf_24 ?_
        refine V.callVp g0 (c_X7_get hs (by omega)) ky_X7_get ki_X7_get ks2_X7_get lk_X7_50 (by assumption) rfl rfl (Nat.le_of_ble_eq_true rfl) ⟨Nat.zero_le _, Nat.zero_le _⟩ rfl rfl (Nat.le_of_ble_eq_true rfl) d_X7_sumOf_25 ?_
        refine V.goto g0 d_X7_sumOf_28 ?_
        refine V.iadd g0 d_X7_sumOf_90 ?_
        refine V.is2 g0 d_X7_sumOf_91 ?_
        refine V.inc3 g0 d_X7_sumOf_92 ?_
        refine V.goto g0 d_X7_sumOf_95 ?_
        exact ih (f - 1) (by omega) (i + 1) _ (by omega) (by rw [sumI_s, ht, valF, if_pos c_19])
  exact LP (s 619).toNat 0 0 (by omega) rfl

theorem d_X7_closed_0 : Dc cX7_closed 0 1 1 (.iconst 0) := ⟨by decide +kernel, rfl⟩
theorem d_X7_closed_1 : Dc cX7_closed 1 1 2 (.istore_n 1) := ⟨by decide +kernel, rfl⟩
theorem d_X7_closed_2 : Dc cX7_closed 2 1 3 (.iconst 0) := ⟨by decide +kernel, rfl⟩
theorem d_X7_closed_3 : Dc cX7_closed 3 1 4 (.istore_n 2) := ⟨by decide +kernel, rfl⟩
theorem d_X7_closed_4 : Dc cX7_closed 4 1 5 (.iload_n 2) := ⟨by decide +kernel, rfl⟩
theorem d_X7_closed_5 : Dc cX7_closed 5 2 7 (.bipush 15) := ⟨by decide +kernel, rfl⟩
theorem d_X7_closed_7 : Dj cX7_closed 7 10 31 (.if_icmp .ge) := ⟨24, by decide +kernel, rfl, by decide⟩
theorem d_X7_closed_10 : Dc cX7_closed 10 1 11 (.iload_n 1) := ⟨by decide +kernel, rfl⟩
theorem d_X7_closed_11 : Dc cX7_closed 11 1 12 (.aload_n 0) := ⟨by decide +kernel, rfl⟩
theorem d_X7_closed_12 : Dc cX7_closed 12 3 15 (.getfield 7) := ⟨by decide +kernel, rfl⟩
theorem d_X7_closed_15 : Dc cX7_closed 15 3 18 (.sipush 620) := ⟨by decide +kernel, rfl⟩
theorem d_X7_closed_18 : Dc cX7_closed 18 1 19 .iaload := ⟨by decide +kernel, rfl⟩
theorem d_X7_closed_19 : Dc cX7_closed 19 1 20 (.iload_n 2) := ⟨by decide +kernel, rfl⟩
theorem d_X7_closed_20 : Dc cX7_closed 20 1 21 .ishr := ⟨by decide +kernel, rfl⟩
theorem d_X7_closed_21 : Dc cX7_closed 21 1 22 (.iconst 1) := ⟨by decide +kernel, rfl⟩
theorem d_X7_closed_22 : Dc cX7_closed 22 1 23 .iand := ⟨by decide +kernel, rfl⟩
theorem d_X7_closed_23 : Dc cX7_closed 23 1 24 .iadd := ⟨by decide +kernel, rfl⟩
theorem d_X7_closed_24 : Dc cX7_closed 24 1 25 (.istore_n 1) := ⟨by decide +kernel, rfl⟩
theorem d_X7_closed_25 : Dc cX7_closed 25 3 28 (.iinc 2 1) := ⟨by decide +kernel, rfl⟩
theorem d_X7_closed_28 : Dj cX7_closed 28 31 4 .goto := ⟨(-24), by decide +kernel, rfl, by decide⟩
theorem d_X7_closed_31 : Dc cX7_closed 31 1 32 (.iload_n 1) := ⟨by decide +kernel, rfl⟩
theorem d_X7_closed_32 : decode cX7_closed 32 = .ok (.ireturn, 1) := by decide +kernel
set_option maxHeartbeats 4000000 in
set_option maxRecDepth 20000 in
theorem c_X7_closed {E : Ev} {n : Nat} {M : Mem} {m : Nat} {s : Int → Int} (hs : MS E M m s) (hcl : 0 ≤ s 620 ∧ s 620 < 32768) : MT E yX7_closed cX7_closed 3 (some .int) 0 0 0 [.ref m] n M (PF (some (.int (iI (closedN s)))) n M) := by
  refine MT.of (by decide) rfl (Nat.le_of_ble_eq_true rfl) ?_
  intro X g
  have g0 := g.1
  show V E X 0 0 n M 0 [some (.ref m), none, none] []
  obtain ⟨⟨fr, hm⟩, ha⟩ := id hs
  refine V.iconst g0 d_X7_closed_0 ?_
  refine V.is1 g0 d_X7_closed_1 ?_
  refine V.iconst g0 d_X7_closed_2 ?_
  refine V.is2 g0 d_X7_closed_3 ?_
  have LP : ∀ (f i : Nat) (t : Int), i + f = 15 → t = sumI (fun i => bI ((s 620).toNat.testBit i.toNat = true)) i → V E X 0 0 n M 4 [some (.ref m), some (.int (iI t)), some (.int (iI (i : Int)))] [] := by
    intro f
    induction f using Nat.strongRecOn with
    | _ f ih =>
    intro i t hf ht
    have hsh : iI (s 620) >>> (iI (i : Int) &&& 31) = iI (((s 620).toNat / 2 ^ i : Nat) : Int) ∨ ¬ i < 15 := by
      by_cases h : i < 15
      · refine Or.inl ?_
        rw [show iI (s 620) = iI (((s 620).toNat : Nat) : Int) by rw [Int.toNat_of_nonneg hcl.1]]
        exact iI_shrn (by omega) (by omega)
      · exact Or.inr h
    refine V.il2 g0 d_X7_closed_4 ?_
    refine V.bipush g0 d_X7_closed_5 (by decide) ?_
    refine V.icmpge g0 d_X7_closed_7 (by omega) (fun c_7 => ?_) (fun c_7 => ?_)
    · skip
      refine V.il1 g0 d_X7_closed_31 ?_
      refine V.iret g d_X7_closed_32 (Nat.zero_le _) (Nat.zero_le _) ⟨congrArg (fun z => some (Value.int (iI z))) ?_, rfl, rfl⟩
      rw [ht, show i = 15 by omega]; rfl
    · skip
      refine V.il1 g0 d_X7_closed_10 ?_
      refine V.al0 g0 d_X7_closed_11 ?_
      refine V.getf g0 d_X7_closed_12 fl_X7_7 (by assumption) (by rfl) ?_
      refine V.sipush g0 d_X7_closed_15 (by decide) ?_
      refine V.iald g0 d_X7_closed_18 (by assumption) (by omega) (by decide) ?_
      refine V.il2 g0 d_X7_closed_19 ?_
      refine V.ishr g0 d_X7_closed_20 (hsh.resolve_right (by omega)) ?_
      refine V.iconst g0 d_X7_closed_21 ?_
      refine V.iand g0 d_X7_closed_22 (iI_and (b := 1)) ?_
      refine V.iadd g0 d_X7_closed_23 ?_
      refine V.is1 g0 d_X7_closed_24 ?_
      refine V.inc2 g0 d_X7_closed_25 ?_
      refine V.goto g0 d_X7_closed_28 ?_
      exact ih (f - 1) (by omega) (i + 1) _ (by omega) (by rw [sumI_s, ht, bit_1, Int.toNat_natCast])
  exact LP 15 0 0 rfl rfl
