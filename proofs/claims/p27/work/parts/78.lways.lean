theorem d_L_areWaysSo_0 : Dc cL_areWaysSo 0 1 1 (.iconst 1) := ⟨by decide +kernel, rfl⟩
theorem d_L_areWaysSo_1 : Dc cL_areWaysSo 1 1 2 (.istore_n 2) := ⟨by decide +kernel, rfl⟩
theorem d_L_areWaysSo_2 : Dc cL_areWaysSo 2 1 3 (.iconst 0) := ⟨by decide +kernel, rfl⟩
theorem d_L_areWaysSo_3 : Dc cL_areWaysSo 3 1 4 (.istore_n 3) := ⟨by decide +kernel, rfl⟩
theorem d_L_areWaysSo_4 : Dc cL_areWaysSo 4 1 5 (.iload_n 3) := ⟨by decide +kernel, rfl⟩
theorem d_L_areWaysSo_5 : Dc cL_areWaysSo 5 2 7 (.bipush 6) := ⟨by decide +kernel, rfl⟩
theorem d_L_areWaysSo_7 : Dj cL_areWaysSo 7 10 121 (.if_icmp .ge) := ⟨114, by decide +kernel, rfl, by decide⟩
theorem d_L_areWaysSo_10 : Dc cL_areWaysSo 10 1 11 (.aload_n 0) := ⟨by decide +kernel, rfl⟩
theorem d_L_areWaysSo_11 : Dc cL_areWaysSo 11 1 12 (.iload_n 1) := ⟨by decide +kernel, rfl⟩
theorem d_L_areWaysSo_12 : Dc cL_areWaysSo 12 1 13 (.iload_n 3) := ⟨by decide +kernel, rfl⟩
theorem d_L_areWaysSo_13 : Dc cL_areWaysSo 13 3 16 (.invokevirtual 66) := ⟨by decide +kernel, rfl⟩
theorem d_L_areWaysSo_16 : Dc cL_areWaysSo 16 2 18 (.istore 4) := ⟨by decide +kernel, rfl⟩
theorem d_L_areWaysSo_18 : Dc cL_areWaysSo 18 1 19 (.aload_n 0) := ⟨by decide +kernel, rfl⟩
theorem d_L_areWaysSo_19 : Dc cL_areWaysSo 19 1 20 (.iload_n 1) := ⟨by decide +kernel, rfl⟩
theorem d_L_areWaysSo_20 : Dc cL_areWaysSo 20 1 21 (.iload_n 3) := ⟨by decide +kernel, rfl⟩
theorem d_L_areWaysSo_21 : Dc cL_areWaysSo 21 3 24 (.invokevirtual 56) := ⟨by decide +kernel, rfl⟩
theorem d_L_areWaysSo_24 : Dc cL_areWaysSo 24 2 26 (.istore 5) := ⟨by decide +kernel, rfl⟩
theorem d_L_areWaysSo_26 : Dc cL_areWaysSo 26 1 27 (.iload_n 2) := ⟨by decide +kernel, rfl⟩
theorem d_L_areWaysSo_27 : Dj cL_areWaysSo 27 30 113 (.ifCond .eq) := ⟨86, by decide +kernel, rfl, by decide⟩
theorem d_L_areWaysSo_30 : Dc cL_areWaysSo 30 2 32 (.iload 4) := ⟨by decide +kernel, rfl⟩
theorem d_L_areWaysSo_32 : Dc cL_areWaysSo 32 2 34 (.bipush 6) := ⟨by decide +kernel, rfl⟩
theorem d_L_areWaysSo_34 : Dj cL_areWaysSo 34 37 113 (.if_icmp .ge) := ⟨79, by decide +kernel, rfl, by decide⟩
theorem d_L_areWaysSo_37 : Dc cL_areWaysSo 37 2 39 (.iload 4) := ⟨by decide +kernel, rfl⟩
theorem d_L_areWaysSo_39 : Dc cL_areWaysSo 39 1 40 (.iconst (-1)) := ⟨by decide +kernel, rfl⟩
theorem d_L_areWaysSo_40 : Dj cL_areWaysSo 40 43 113 (.if_icmp .eq) := ⟨73, by decide +kernel, rfl, by decide⟩
theorem d_L_areWaysSo_43 : Dc cL_areWaysSo 43 2 45 (.iload 4) := ⟨by decide +kernel, rfl⟩
theorem d_L_areWaysSo_45 : Dj cL_areWaysSo 45 48 52 (.ifCond .ne) := ⟨7, by decide +kernel, rfl, by decide⟩
theorem d_L_areWaysSo_48 : Dc cL_areWaysSo 48 1 49 (.iconst 1) := ⟨by decide +kernel, rfl⟩
theorem d_L_areWaysSo_49 : Dj cL_areWaysSo 49 52 53 .goto := ⟨4, by decide +kernel, rfl, by decide⟩
theorem d_L_areWaysSo_52 : Dc cL_areWaysSo 52 1 53 (.iconst 0) := ⟨by decide +kernel, rfl⟩
theorem d_L_areWaysSo_53 : Dc cL_areWaysSo 53 2 55 (.iload 5) := ⟨by decide +kernel, rfl⟩
theorem d_L_areWaysSo_55 : Dc cL_areWaysSo 55 1 56 (.iconst 1) := ⟨by decide +kernel, rfl⟩
theorem d_L_areWaysSo_56 : Dj cL_areWaysSo 56 59 63 (.if_icmp .ne) := ⟨7, by decide +kernel, rfl, by decide⟩
theorem d_L_areWaysSo_59 : Dc cL_areWaysSo 59 1 60 (.iconst 1) := ⟨by decide +kernel, rfl⟩
theorem d_L_areWaysSo_60 : Dj cL_areWaysSo 60 63 64 .goto := ⟨4, by decide +kernel, rfl, by decide⟩
theorem d_L_areWaysSo_63 : Dc cL_areWaysSo 63 1 64 (.iconst 0) := ⟨by decide +kernel, rfl⟩
theorem d_L_areWaysSo_64 : Dj cL_areWaysSo 64 67 113 (.if_icmp .ne) := ⟨49, by decide +kernel, rfl, by decide⟩
theorem d_L_areWaysSo_67 : Dc cL_areWaysSo 67 2 69 (.iload 4) := ⟨by decide +kernel, rfl⟩
theorem d_L_areWaysSo_69 : Dc cL_areWaysSo 69 1 70 (.iconst 1) := ⟨by decide +kernel, rfl⟩
theorem d_L_areWaysSo_70 : Dj cL_areWaysSo 70 73 77 (.if_icmp .ne) := ⟨7, by decide +kernel, rfl, by decide⟩
theorem d_L_areWaysSo_73 : Dc cL_areWaysSo 73 1 74 (.iconst 1) := ⟨by decide +kernel, rfl⟩
theorem d_L_areWaysSo_74 : Dj cL_areWaysSo 74 77 78 .goto := ⟨4, by decide +kernel, rfl, by decide⟩
theorem d_L_areWaysSo_77 : Dc cL_areWaysSo 77 1 78 (.iconst 0) := ⟨by decide +kernel, rfl⟩
theorem d_L_areWaysSo_78 : Dc cL_areWaysSo 78 2 80 (.iload 5) := ⟨by decide +kernel, rfl⟩
theorem d_L_areWaysSo_80 : Dj cL_areWaysSo 80 83 89 (.ifCond .eq) := ⟨9, by decide +kernel, rfl, by decide⟩
theorem d_L_areWaysSo_83 : Dc cL_areWaysSo 83 2 85 (.iload 5) := ⟨by decide +kernel, rfl⟩
theorem d_L_areWaysSo_85 : Dc cL_areWaysSo 85 1 86 (.iconst 4) := ⟨by decide +kernel, rfl⟩
theorem d_L_areWaysSo_86 : Dj cL_areWaysSo 86 89 93 (.if_icmp .le) := ⟨7, by decide +kernel, rfl, by decide⟩
theorem d_L_areWaysSo_89 : Dc cL_areWaysSo 89 1 90 (.iconst 1) := ⟨by decide +kernel, rfl⟩
theorem d_L_areWaysSo_90 : Dj cL_areWaysSo 90 93 94 .goto := ⟨4, by decide +kernel, rfl, by decide⟩
theorem d_L_areWaysSo_93 : Dc cL_areWaysSo 93 1 94 (.iconst 0) := ⟨by decide +kernel, rfl⟩
theorem d_L_areWaysSo_94 : Dj cL_areWaysSo 94 97 113 (.if_icmp .ne) := ⟨19, by decide +kernel, rfl, by decide⟩
theorem d_L_areWaysSo_97 : Dc cL_areWaysSo 97 2 99 (.iload 4) := ⟨by decide +kernel, rfl⟩
theorem d_L_areWaysSo_99 : Dc cL_areWaysSo 99 1 100 (.iconst 2) := ⟨by decide +kernel, rfl⟩
theorem d_L_areWaysSo_100 : Dj cL_areWaysSo 100 103 109 (.if_icmp .lt) := ⟨9, by decide +kernel, rfl, by decide⟩
theorem d_L_areWaysSo_103 : Dc cL_areWaysSo 103 2 105 (.iload 5) := ⟨by decide +kernel, rfl⟩
theorem d_L_areWaysSo_105 : Dc cL_areWaysSo 105 1 106 (.iconst 2) := ⟨by decide +kernel, rfl⟩
theorem d_L_areWaysSo_106 : Dj cL_areWaysSo 106 109 113 (.if_icmp .ne) := ⟨7, by decide +kernel, rfl, by decide⟩
theorem d_L_areWaysSo_109 : Dc cL_areWaysSo 109 1 110 (.iconst 1) := ⟨by decide +kernel, rfl⟩
theorem d_L_areWaysSo_110 : Dj cL_areWaysSo 110 113 114 .goto := ⟨4, by decide +kernel, rfl, by decide⟩
theorem d_L_areWaysSo_113 : Dc cL_areWaysSo 113 1 114 (.iconst 0) := ⟨by decide +kernel, rfl⟩
theorem d_L_areWaysSo_114 : Dc cL_areWaysSo 114 1 115 (.istore_n 2) := ⟨by decide +kernel, rfl⟩
theorem d_L_areWaysSo_115 : Dc cL_areWaysSo 115 3 118 (.iinc 3 1) := ⟨by decide +kernel, rfl⟩
theorem d_L_areWaysSo_118 : Dj cL_areWaysSo 118 121 4 .goto := ⟨(-114), by decide +kernel, rfl, by decide⟩
theorem d_L_areWaysSo_121 : Dc cL_areWaysSo 121 1 122 (.iload_n 2) := ⟨by decide +kernel, rfl⟩
theorem d_L_areWaysSo_122 : decode cL_areWaysSo 122 = .ok (.ireturn, 1) := by decide +kernel
set_option maxHeartbeats 4000000 in
set_option maxRecDepth 20000 in
theorem c_L_areWaysSo {E : Ev} {n : Nat} {M : Mem} {w o : Nat} {A : AS} (hX : XR E M w n o A) {e : Int} (hI : Inv A.1 e) (he : e ≤ 1000) {h : Nat} (hh : (h : Int) < A.1 619) : MT E yL_areWaysSo cL_areWaysSo 6 (some .boolean) 7 0 0 [.ref o, .int (iI (h : Int))] n M (PF (some (.int (iI (1)))) n M) := by
  refine MT.of (by decide) rfl (Nat.le_of_ble_eq_true rfl) ?_
  intro X g
  have g0 := g.1
  show V E X 0 0 n M 0 [some (.ref o), some (.int (iI (h : Int))), none, none, none, none] []
  obtain ⟨fs, hXo, hXn⟩ := hX.now
  have hO : Ok A.1 := hXn.ok
  have hm := hO.many
  have hdy := hO.day
  have hk : 0 ≤ (h : Int) ∧ (h : Int) < A.1 619 := ⟨by omega, hh⟩
  have hkr : rg (h : Int) := by constructor <;> omega
  have hkp := hO.at hk.1 hk.2
  have h8 := hkp.stm
  have h3 := hkp.crs
  have hw := hkp.whr
  have hhm := hkp.home
  have hbg := hkp.bgn
  obtain ⟨i1, i2, i3⟩ := hI.2.1 h hk.1 hk.2
  have hbp := bP_b hkp (A.1 (103 * (h : Int) + 8))
  refine V.iconst g0 d_L_areWaysSo_0 ?_
  refine V.is2 g0 d_L_areWaysSo_1 ?_
  refine V.iconst g0 d_L_areWaysSo_2 ?_
  refine V.is3 g0 d_L_areWaysSo_3 ?_
  have LP1 : ∀ (f1 i : Nat), i + f1 = 6 → V E X 0 0 n M 4 [some (.ref o), some (.int (iI (h : Int))), some (.int (iI 1)), some (.int (iI (i : Int))), none, none] [] := by
    intro f1
    induction f1 using Nat.strongRecOn with
    | _ f1 ih1 =>
    intro i hf1
    refine V.il3 g0 d_L_areWaysSo_4 ?_
    refine V.bipush g0 d_L_areWaysSo_5 (by decide) ?_
    refine V.icmpge g0 d_L_areWaysSo_7 (by omega) (fun c_7 => ?_) (fun c_7 => ?_)
    · skip
      refine V.il2 g0 d_L_areWaysSo_121 ?_
      refine V.zret g d_L_areWaysSo_122 (by first | exact Or.inl rfl | exact Or.inr rfl | exact bI_01 _) (Nat.zero_le _) (Nat.zero_le _) ⟨congrArg (fun z => some (Value.int (iI z))) ?_, rfl, rfl⟩
      rfl
    · skip
      have hc : 0 ≤ (i : Int) ∧ (i : Int) < 6 := by omega
      have hwy := way_so (s := A.1) (k := (h : Int)) (j := i) (by omega) hw
      have hrb := hindr_b A.1 (h : Int) (i : Int) 2
      refine V.al0 g0 d_L_areWaysSo_10 ?_
      refine V.il1 g0 d_L_areWaysSo_11 ?_
      refine V.il3 g0 d_L_areWaysSo_12 ?_
      refine V.callVp g0 (MT.ans (c_X6_wayTo hXo hXn hkr (by constructor <;> omega)) ((wayq hk hc).trans (by rw [Int.toNat_natCast]))) ky_X6_wayTo ki_X6_wayTo ks2_X6_wayTo lk_L_66 hXo rfl rfl (Nat.le_of_ble_eq_true rfl) ⟨Nat.zero_le _, Nat.zero_le _⟩ rfl rfl (Nat.le_of_ble_eq_true rfl) d_L_areWaysSo_13 ?_
      refine V.is4 g0 d_L_areWaysSo_16 ?_
      refine V.al0 g0 d_L_areWaysSo_18 ?_
      refine V.il1 g0 d_L_areWaysSo_19 ?_
      refine V.il3 g0 d_L_areWaysSo_20 ?_
      refine V.callVp g0 (MT.ans (c_X6_reason hXo hXn hkr (by constructor <;> omega)) (rea hk hc)) ky_X6_reason ki_X6_reason ks2_X6_reason lk_L_56 hXo rfl rfl (Nat.le_of_ble_eq_true rfl) ⟨Nat.zero_le _, Nat.zero_le _⟩ rfl rfl (Nat.le_of_ble_eq_true rfl) d_L_areWaysSo_21 ?_
      refine V.is5 g0 d_L_areWaysSo_24 ?_
      refine V.il2 g0 d_L_areWaysSo_26 ?_
      refine V.ifeq g0 d_L_areWaysSo_27 (by omega) (fun c_27 => ?_) (fun c_27 => ?_)
      · skip
        exfalso; omega
      · skip
        refine V.il4 g0 d_L_areWaysSo_30 ?_
        refine V.bipush g0 d_L_areWaysSo_32 (by decide) ?_
        refine V.icmpge g0 d_L_areWaysSo_34 (by omega) (fun c_34 => ?_) (fun c_34 => ?_)
        · skip
          exfalso; omega
        · skip
          refine V.il4 g0 d_L_areWaysSo_37 ?_
          refine V.iconst g0 d_L_areWaysSo_39 ?_
          refine V.icmpeq g0 d_L_areWaysSo_40 (by omega) (fun c_40 => ?_) (fun c_40 => ?_)
          · skip
            exfalso; omega
          · skip
            refine V.il4 g0 d_L_areWaysSo_43 ?_
            refine V.eqb_ifne (P := wayF A.1 (h : Int) i 6 0 = 0) g0 d_L_areWaysSo_45 d_L_areWaysSo_48 d_L_areWaysSo_49 d_L_areWaysSo_52 (by omega) Iff.rfl ?_
            refine V.il5 g0 d_L_areWaysSo_53 ?_
            refine V.iconst g0 d_L_areWaysSo_55 ?_
            refine V.eqb_icmpne (P := hindr A.1 (h : Int) (i : Int) 2 = 1) g0 d_L_areWaysSo_56 d_L_areWaysSo_59 d_L_areWaysSo_60 d_L_areWaysSo_63 (by omega) Iff.rfl ?_
            rw [bI_e hwy.2.1]
            refine V.sameNe g0 d_L_areWaysSo_64 ?_
            refine V.il4 g0 d_L_areWaysSo_67 ?_
            refine V.iconst g0 d_L_areWaysSo_69 ?_
            refine V.eqb_icmpne (P := wayF A.1 (h : Int) i 6 0 = 1) g0 d_L_areWaysSo_70 d_L_areWaysSo_73 d_L_areWaysSo_74 d_L_areWaysSo_77 (by omega) Iff.rfl ?_
            refine V.il5 g0 d_L_areWaysSo_78 ?_
            refine V.ifeq g0 d_L_areWaysSo_80 (by omega) (fun c_80 => ?_) (fun c_80 => ?_)
            · skip
              refine V.iconst g0 d_L_areWaysSo_89 ?_
              refine V.goto g0 d_L_areWaysSo_90 ?_
              rw [show bI (wayF A.1 (h : Int) i 6 0 = 1) = 1 from bI_t (by omega)]
              refine V.sameNe g0 d_L_areWaysSo_94 ?_
              refine V.il4 g0 d_L_areWaysSo_97 ?_
              refine V.iconst g0 d_L_areWaysSo_99 ?_
              refine V.icmplt g0 d_L_areWaysSo_100 (by omega) (fun c_100 => ?_) (fun c_100 => ?_)
              · skip
                refine V.iconst g0 d_L_areWaysSo_109 ?_
                refine V.goto g0 d_L_areWaysSo_110 ?_
                refine V.is2 g0 d_L_areWaysSo_114 ?_
                refine V.inc3 g0 d_L_areWaysSo_115 ?_
                refine V.goto g0 d_L_areWaysSo_118 ?_
                exact V.weak2 (ih1 (f1 - 1) (by omega) (i + 1) (by omega)) (lcLe_s (lcLe_s (lcLe_s (lcLe_s (lcLe_f (lcLe_f lcLe_n))))))
              · skip
                refine V.il5 g0 d_L_areWaysSo_103 ?_
                refine V.iconst g0 d_L_areWaysSo_105 ?_
                refine V.icmpne g0 d_L_areWaysSo_106 (by omega) (fun c_106 => ?_) (fun c_106 => ?_)
                · skip
                  exfalso; omega
                · skip
                  refine V.iconst g0 d_L_areWaysSo_109 ?_
                  refine V.goto g0 d_L_areWaysSo_110 ?_
                  refine V.is2 g0 d_L_areWaysSo_114 ?_
                  refine V.inc3 g0 d_L_areWaysSo_115 ?_
                  refine V.goto g0 d_L_areWaysSo_118 ?_
                  exact V.weak2 (ih1 (f1 - 1) (by omega) (i + 1) (by omega)) (lcLe_s (lcLe_s (lcLe_s (lcLe_s (lcLe_f (lcLe_f lcLe_n))))))
            · skip
              refine V.il5 g0 d_L_areWaysSo_83 ?_
              refine V.iconst g0 d_L_areWaysSo_85 ?_
              refine V.icmple g0 d_L_areWaysSo_86 (by omega) (fun c_86 => ?_) (fun c_86 => ?_)
              · skip
                refine V.iconst g0 d_L_areWaysSo_93 ?_
                rw [show bI (wayF A.1 (h : Int) i 6 0 = 1) = 0 from bI_f (by omega)]
                refine V.sameNe g0 d_L_areWaysSo_94 ?_
                refine V.il4 g0 d_L_areWaysSo_97 ?_
                refine V.iconst g0 d_L_areWaysSo_99 ?_
                refine V.icmplt g0 d_L_areWaysSo_100 (by omega) (fun c_100 => ?_) (fun c_100 => ?_)
                · skip
                  refine V.iconst g0 d_L_areWaysSo_109 ?_
                  refine V.goto g0 d_L_areWaysSo_110 ?_
                  refine V.is2 g0 d_L_areWaysSo_114 ?_
                  refine V.inc3 g0 d_L_areWaysSo_115 ?_
                  refine V.goto g0 d_L_areWaysSo_118 ?_
                  exact V.weak2 (ih1 (f1 - 1) (by omega) (i + 1) (by omega)) (lcLe_s (lcLe_s (lcLe_s (lcLe_s (lcLe_f (lcLe_f lcLe_n))))))
                · skip
                  refine V.il5 g0 d_L_areWaysSo_103 ?_
                  refine V.iconst g0 d_L_areWaysSo_105 ?_
                  refine V.icmpne g0 d_L_areWaysSo_106 (by omega) (fun c_106 => ?_) (fun c_106 => ?_)
                  · skip
                    exfalso; omega
                  · skip
                    refine V.iconst g0 d_L_areWaysSo_109 ?_
                    refine V.goto g0 d_L_areWaysSo_110 ?_
                    refine V.is2 g0 d_L_areWaysSo_114 ?_
                    refine V.inc3 g0 d_L_areWaysSo_115 ?_
                    refine V.goto g0 d_L_areWaysSo_118 ?_
                    exact V.weak2 (ih1 (f1 - 1) (by omega) (i + 1) (by omega)) (lcLe_s (lcLe_s (lcLe_s (lcLe_s (lcLe_f (lcLe_f lcLe_n))))))
              · skip
                refine V.iconst g0 d_L_areWaysSo_89 ?_
                refine V.goto g0 d_L_areWaysSo_90 ?_
                rw [show bI (wayF A.1 (h : Int) i 6 0 = 1) = 1 from bI_t (by omega)]
                refine V.sameNe g0 d_L_areWaysSo_94 ?_
                refine V.il4 g0 d_L_areWaysSo_97 ?_
                refine V.iconst g0 d_L_areWaysSo_99 ?_
                refine V.icmplt g0 d_L_areWaysSo_100 (by omega) (fun c_100 => ?_) (fun c_100 => ?_)
                · skip
                  refine V.iconst g0 d_L_areWaysSo_109 ?_
                  refine V.goto g0 d_L_areWaysSo_110 ?_
                  refine V.is2 g0 d_L_areWaysSo_114 ?_
                  refine V.inc3 g0 d_L_areWaysSo_115 ?_
                  refine V.goto g0 d_L_areWaysSo_118 ?_
                  exact V.weak2 (ih1 (f1 - 1) (by omega) (i + 1) (by omega)) (lcLe_s (lcLe_s (lcLe_s (lcLe_s (lcLe_f (lcLe_f lcLe_n))))))
                · skip
                  refine V.il5 g0 d_L_areWaysSo_103 ?_
                  refine V.iconst g0 d_L_areWaysSo_105 ?_
                  refine V.icmpne g0 d_L_areWaysSo_106 (by omega) (fun c_106 => ?_) (fun c_106 => ?_)
                  · skip
                    exfalso; omega
                  · skip
                    refine V.iconst g0 d_L_areWaysSo_109 ?_
                    refine V.goto g0 d_L_areWaysSo_110 ?_
                    refine V.is2 g0 d_L_areWaysSo_114 ?_
                    refine V.inc3 g0 d_L_areWaysSo_115 ?_
                    refine V.goto g0 d_L_areWaysSo_118 ?_
                    exact V.weak2 (ih1 (f1 - 1) (by omega) (i + 1) (by omega)) (lcLe_s (lcLe_s (lcLe_s (lcLe_s (lcLe_f (lcLe_f lcLe_n))))))
  exact LP1 6 0 (by omega)
