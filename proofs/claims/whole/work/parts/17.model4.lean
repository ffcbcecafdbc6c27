theorem d_X7_record_0 : Dc cX7_record 0 1 1 (.aload_n 0) := ⟨by decide +kernel, rfl⟩
theorem d_X7_record_1 : Dc cX7_record 1 3 4 (.getfield 47) := ⟨by decide +kernel, rfl⟩
theorem d_X7_record_4 : Dc cX7_record 4 1 5 (.iconst 4) := ⟨by decide +kernel, rfl⟩
theorem d_X7_record_5 : Dj cX7_record 5 8 49 (.if_icmp .ne) := ⟨44, by decide +kernel, rfl, by decide⟩
theorem d_X7_record_8 : Dc cX7_record 8 1 9 (.iconst 0) := ⟨by decide +kernel, rfl⟩
theorem d_X7_record_9 : Dc cX7_record 9 1 10 (.istore_n 1) := ⟨by decide +kernel, rfl⟩
theorem d_X7_record_10 : Dc cX7_record 10 1 11 (.iload_n 1) := ⟨by decide +kernel, rfl⟩
theorem d_X7_record_11 : Dc cX7_record 11 3 14 (.sipush 1866) := ⟨by decide +kernel, rfl⟩
theorem d_X7_record_14 : Dj cX7_record 14 17 39 (.if_icmp .ge) := ⟨25, by decide +kernel, rfl, by decide⟩
theorem d_X7_record_17 : Dc cX7_record 17 1 18 (.aload_n 0) := ⟨by decide +kernel, rfl⟩
theorem d_X7_record_18 : Dc cX7_record 18 3 21 (.getfield 16) := ⟨by decide +kernel, rfl⟩
theorem d_X7_record_21 : Dc cX7_record 21 1 22 (.iload_n 1) := ⟨by decide +kernel, rfl⟩
theorem d_X7_record_22 : Dc cX7_record 22 1 23 (.aload_n 0) := ⟨by decide +kernel, rfl⟩
theorem d_X7_record_23 : Dc cX7_record 23 3 26 (.getfield 16) := ⟨by decide +kernel, rfl⟩
theorem d_X7_record_26 : Dc cX7_record 26 1 27 (.iload_n 1) := ⟨by decide +kernel, rfl⟩
theorem d_X7_record_27 : Dc cX7_record 27 3 30 (.sipush 622) := ⟨by decide +kernel, rfl⟩
theorem d_X7_record_30 : Dc cX7_record 30 1 31 .iadd := ⟨by decide +kernel, rfl⟩
theorem d_X7_record_31 : Dc cX7_record 31 1 32 .iaload := ⟨by decide +kernel, rfl⟩
theorem d_X7_record_32 : Dc cX7_record 32 1 33 .iastore := ⟨by decide +kernel, rfl⟩
theorem d_X7_record_33 : Dc cX7_record 33 3 36 (.iinc 1 1) := ⟨by decide +kernel, rfl⟩
theorem d_X7_record_36 : Dj cX7_record 36 39 10 .goto := ⟨(-26), by decide +kernel, rfl, by decide⟩
theorem d_X7_record_39 : Dc cX7_record 39 1 40 (.aload_n 0) := ⟨by decide +kernel, rfl⟩
theorem d_X7_record_40 : Dc cX7_record 40 1 41 .dup := ⟨by decide +kernel, rfl⟩
theorem d_X7_record_41 : Dc cX7_record 41 3 44 (.getfield 47) := ⟨by decide +kernel, rfl⟩
theorem d_X7_record_44 : Dc cX7_record 44 1 45 (.iconst 1) := ⟨by decide +kernel, rfl⟩
theorem d_X7_record_45 : Dc cX7_record 45 1 46 .isub := ⟨by decide +kernel, rfl⟩
theorem d_X7_record_46 : Dc cX7_record 46 3 49 (.putfield 47) := ⟨by decide +kernel, rfl⟩
theorem d_X7_record_49 : Dc cX7_record 49 1 50 (.iconst 0) := ⟨by decide +kernel, rfl⟩
theorem d_X7_record_50 : Dc cX7_record 50 1 51 (.istore_n 1) := ⟨by decide +kernel, rfl⟩
theorem d_X7_record_51 : Dc cX7_record 51 1 52 (.iload_n 1) := ⟨by decide +kernel, rfl⟩
theorem d_X7_record_52 : Dc cX7_record 52 3 55 (.sipush 622) := ⟨by decide +kernel, rfl⟩
theorem d_X7_record_55 : Dj cX7_record 55 58 85 (.if_icmp .ge) := ⟨30, by decide +kernel, rfl, by decide⟩
theorem d_X7_record_58 : Dc cX7_record 58 1 59 (.aload_n 0) := ⟨by decide +kernel, rfl⟩
theorem d_X7_record_59 : Dc cX7_record 59 3 62 (.getfield 16) := ⟨by decide +kernel, rfl⟩
theorem d_X7_record_62 : Dc cX7_record 62 3 65 (.sipush 622) := ⟨by decide +kernel, rfl⟩
theorem d_X7_record_65 : Dc cX7_record 65 1 66 (.aload_n 0) := ⟨by decide +kernel, rfl⟩
theorem d_X7_record_66 : Dc cX7_record 66 3 69 (.getfield 47) := ⟨by decide +kernel, rfl⟩
theorem d_X7_record_69 : Dc cX7_record 69 1 70 .imul := ⟨by decide +kernel, rfl⟩
theorem d_X7_record_70 : Dc cX7_record 70 1 71 (.iload_n 1) := ⟨by decide +kernel, rfl⟩
theorem d_X7_record_71 : Dc cX7_record 71 1 72 .iadd := ⟨by decide +kernel, rfl⟩
theorem d_X7_record_72 : Dc cX7_record 72 1 73 (.aload_n 0) := ⟨by decide +kernel, rfl⟩
theorem d_X7_record_73 : Dc cX7_record 73 3 76 (.getfield 7) := ⟨by decide +kernel, rfl⟩
theorem d_X7_record_76 : Dc cX7_record 76 1 77 (.iload_n 1) := ⟨by decide +kernel, rfl⟩
theorem d_X7_record_77 : Dc cX7_record 77 1 78 .iaload := ⟨by decide +kernel, rfl⟩
theorem d_X7_record_78 : Dc cX7_record 78 1 79 .iastore := ⟨by decide +kernel, rfl⟩
theorem d_X7_record_79 : Dc cX7_record 79 3 82 (.iinc 1 1) := ⟨by decide +kernel, rfl⟩
theorem d_X7_record_82 : Dj cX7_record 82 85 51 .goto := ⟨(-31), by decide +kernel, rfl, by decide⟩
theorem d_X7_record_85 : Dc cX7_record 85 1 86 (.aload_n 0) := ⟨by decide +kernel, rfl⟩
theorem d_X7_record_86 : Dc cX7_record 86 1 87 .dup := ⟨by decide +kernel, rfl⟩
theorem d_X7_record_87 : Dc cX7_record 87 3 90 (.getfield 47) := ⟨by decide +kernel, rfl⟩
theorem d_X7_record_90 : Dc cX7_record 90 1 91 (.iconst 1) := ⟨by decide +kernel, rfl⟩
theorem d_X7_record_91 : Dc cX7_record 91 1 92 .iadd := ⟨by decide +kernel, rfl⟩
theorem d_X7_record_92 : Dc cX7_record 92 3 95 (.putfield 47) := ⟨by decide +kernel, rfl⟩
theorem d_X7_record_95 : decode cX7_record 95 = .ok (.return_, 1) := by decide +kernel
set_option maxHeartbeats 4000000 in
set_option maxRecDepth 20000 in
theorem c_X7_record {E : Ev} {n : Nat} {M : Mem} {m : Nat} {s a sn tx : Int → Int} {H : Int → Int → Int} {kn kp ln st se sp wr le f1 f2 f3 f4 f5 sb : Int} (hkn : 0 ≤ kn ∧ kn ≤ 4) : MT E yX7_record cX7_record 2 none 0 0 0 [.ref m] n (md E M m s a (hOf H) sn tx kn kp ln st se sp wr le f1 f2 f3 f4 f5 sb) ((PF none n (md E M m s a (hOf (recH H s kn)) sn tx (recK kn) kp ln st se sp wr le f1 f2 f3 f4 f5 sb))) := by
  refine MT.of (by decide) rfl (Nat.le_of_ble_eq_true rfl) ?_
  intro X g
  have g0 := g.1
  show V E X 0 0 n (md E M m s a (hOf H) sn tx kn kp ln st se sp wr le f1 f2 f3 f4 f5 sb) 0 [some (.ref m), none] []
  have TL : ∀ (H1 : Int → Int → Int) (k : Int), 0 ≤ k → k < 4 → (∀ i, 0 ≤ i → i < 4 → (if i = k then s else H1 i) = recH H s kn i) → k + 1 = recK kn → V E X 0 0 n (md E M m s a (hOf H1) sn tx k kp ln st se sp wr le f1 f2 f3 f4 f5 sb) 49 [some (.ref m), none] [] := by
    intro H1 k hk0 hk4 hrec hk1
    refine V.iconst g0 d_X7_record_49 ?_
    refine V.is1 g0 d_X7_record_50 ?_
    have LP : ∀ (f i : Nat), i + f = 622 → V E X 0 0 n (md E M m s a (ptP (hOf H1) s k i) sn tx k kp ln st se sp wr le f1 f2 f3 f4 f5 sb) 51 [some (.ref m), some (.int (iI (i : Int)))] [] := by
      intro f
      induction f using Nat.strongRecOn with
      | _ f ih =>
      intro i hf
      refine V.il1 g0 d_X7_record_51 ?_
      refine V.sipush g0 d_X7_record_52 (by decide) ?_
      refine V.icmpge g0 d_X7_record_55 (by omega) (fun c_55 => ?_) (fun c_55 => ?_)
      · skip
        refine V.rep (h := hOf (recH H s kn)) md_3 (fun j h0 h1 => by rw [show i = 622 by omega, hOf_pt]; exact hOf_c ⟨h0, h1⟩ hrec) ?_
        refine V.eqM md_u3 ?_
        refine V.al0 g0 d_X7_record_85 ?_
        refine V.dup g0 d_X7_record_86 rfl ?_
        refine V.getf g0 d_X7_record_87 fl_X7_47 (by first | exact md_0 | exact md_1 | exact md_2 | exact md_3 | exact md_4 | exact md_5) (by rfl) ?_
        refine V.iconst g0 d_X7_record_90 ?_
        refine V.iadd g0 d_X7_record_91 ?_
        refine V.putf g0 d_X7_record_92 fp_X7_47 (by first | exact md_0 | exact md_1 | exact md_2 | exact md_3 | exact md_4 | exact md_5) (Nat.le_of_ble_eq_true rfl) rfl rfl ?_
        first | refine V.eqM md_u1 ?_ | refine V.eqM md_u2 ?_ | refine V.eqM md_u3 ?_ | refine V.eqM md_u4 ?_ | refine V.eqM md_u5 ?_ | refine V.eqM md_u0 ?_
        rw [hk1]
        refine V.vret g d_X7_record_95 (Nat.zero_le _) (Nat.zero_le _) ?_
        exact ⟨rfl, rfl, rfl⟩
      · skip
        refine V.al0 g0 d_X7_record_58 ?_
        refine V.getf g0 d_X7_record_59 fl_X7_16 (by first | exact md_0 | exact md_1 | exact md_2 | exact md_3 | exact md_4 | exact md_5) (by rfl) ?_
        refine V.sipush g0 d_X7_record_62 (by decide) ?_
        refine V.al0 g0 d_X7_record_65 ?_
        refine V.getf g0 d_X7_record_66 fl_X7_47 (by first | exact md_0 | exact md_1 | exact md_2 | exact md_3 | exact md_4 | exact md_5) (by rfl) ?_
        refine V.imul g0 d_X7_record_69 ?_
        refine V.il1 g0 d_X7_record_70 ?_
        refine V.iadd g0 d_X7_record_71 ?_
        refine V.al0 g0 d_X7_record_72 ?_
        refine V.getf g0 d_X7_record_73 fl_X7_7 (by first | exact md_0 | exact md_1 | exact md_2 | exact md_3 | exact md_4 | exact md_5) (by rfl) ?_
        refine V.il1 g0 d_X7_record_76 ?_
        refine V.iald g0 d_X7_record_77 (by first | exact md_0 | exact md_1 | exact md_2 | exact md_3 | exact md_4 | exact md_5) (by omega) (by decide) ?_
        refine V.iast g0 d_X7_record_78 (by first | exact md_0 | exact md_1 | exact md_2 | exact md_3 | exact md_4 | exact md_5) (by omega) (by decide) ?_
        first | refine V.eqM md_u1 ?_ | refine V.eqM md_u2 ?_ | refine V.eqM md_u3 ?_ | refine V.eqM md_u4 ?_ | refine V.eqM md_u5 ?_ | refine V.eqM md_u0 ?_
        rw [ptP_s]
        refine V.inc1 g0 d_X7_record_79 ?_
        refine V.goto g0 d_X7_record_82 ?_
        exact ih (f - 1) (by omega) (i + 1) (by omega)
    exact V.eqM (by rw [ptP_0]) (LP 622 0 rfl)
  refine V.al0 g0 d_X7_record_0 ?_
  refine V.getf g0 d_X7_record_1 fl_X7_47 (by first | exact md_0 | exact md_1 | exact md_2 | exact md_3 | exact md_4 | exact md_5) (by rfl) ?_
  refine V.iconst g0 d_X7_record_4 ?_
  refine V.icmpne g0 d_X7_record_5 (by omega) (fun c_5 => ?_) (fun c_5 => ?_)
  · skip
    exact V.weak2 (TL H kn hkn.1 (by omega) (fun i h0 h1 => by rw [recH, if_neg c_5]) (by rw [recK, if_neg c_5])) (lcLe_s (lcLe_s lcLe_n))
    skip
  · skip
    subst c_5
    refine V.iconst g0 d_X7_record_8 ?_
    refine V.is1 g0 d_X7_record_9 ?_
    have LP : ∀ (f i : Nat), i + f = 1866 → V E X 0 0 n (md E M m s a (shP (hOf H) i) sn tx 4 kp ln st se sp wr le f1 f2 f3 f4 f5 sb) 10 [some (.ref m), some (.int (iI (i : Int)))] [] := by
      intro f
      induction f using Nat.strongRecOn with
      | _ f ih =>
      intro i hf
      refine V.il1 g0 d_X7_record_10 ?_
      refine V.sipush g0 d_X7_record_11 (by decide) ?_
      refine V.icmpge g0 d_X7_record_14 (by omega) (fun c_14 => ?_) (fun c_14 => ?_)
      · skip
        refine V.rep (h := hOf (fun i => if i < 3 then H (i + 1) else H i)) md_3 (fun j h0 h1 => by rw [show i = 1866 by omega]; exact hOf_sh H ⟨h0, h1⟩) ?_
        refine V.eqM md_u3 ?_
        refine V.al0 g0 d_X7_record_39 ?_
        refine V.dup g0 d_X7_record_40 rfl ?_
        refine V.getf g0 d_X7_record_41 fl_X7_47 (by first | exact md_0 | exact md_1 | exact md_2 | exact md_3 | exact md_4 | exact md_5) (by rfl) ?_
        refine V.iconst g0 d_X7_record_44 ?_
        refine V.isub g0 d_X7_record_45 ?_
        refine V.putf g0 d_X7_record_46 fp_X7_47 (by first | exact md_0 | exact md_1 | exact md_2 | exact md_3 | exact md_4 | exact md_5) (Nat.le_of_ble_eq_true rfl) rfl rfl ?_
        first | refine V.eqM md_u1 ?_ | refine V.eqM md_u2 ?_ | refine V.eqM md_u3 ?_ | refine V.eqM md_u4 ?_ | refine V.eqM md_u5 ?_ | refine V.eqM md_u0 ?_
        exact V.weak2 (TL (fun i => if i < 3 then H (i + 1) else H i) (4 - 1) (by omega) (by omega) (fun i h0 h1 => by
          rw [recH, if_pos rfl]
          show (if i = 4 - 1 then s else if i < 3 then H (i + 1) else H i) = (if i = 3 then s else H (i + 1))
          by_cases h3 : i = 3
          · rw [if_pos (by omega), if_pos h3]
          · rw [if_neg (by omega), if_neg h3, if_pos (by omega)]) rfl) (lcLe_s (lcLe_f lcLe_n))
      · skip
        refine V.al0 g0 d_X7_record_17 ?_
        refine V.getf g0 d_X7_record_18 fl_X7_16 (by first | exact md_0 | exact md_1 | exact md_2 | exact md_3 | exact md_4 | exact md_5) (by rfl) ?_
        refine V.il1 g0 d_X7_record_21 ?_
        refine V.al0 g0 d_X7_record_22 ?_
        refine V.getf g0 d_X7_record_23 fl_X7_16 (by first | exact md_0 | exact md_1 | exact md_2 | exact md_3 | exact md_4 | exact md_5) (by rfl) ?_
        refine V.il1 g0 d_X7_record_26 ?_
        refine V.sipush g0 d_X7_record_27 (by decide) ?_
        refine V.iadd g0 d_X7_record_30 ?_
        refine V.iald g0 d_X7_record_31 (by first | exact md_0 | exact md_1 | exact md_2 | exact md_3 | exact md_4 | exact md_5) (by omega) (by decide) ?_
        refine V.iast g0 d_X7_record_32 (by first | exact md_0 | exact md_1 | exact md_2 | exact md_3 | exact md_4 | exact md_5) (by omega) (by decide) ?_
        first | refine V.eqM md_u1 ?_ | refine V.eqM md_u2 ?_ | refine V.eqM md_u3 ?_ | refine V.eqM md_u4 ?_ | refine V.eqM md_u5 ?_ | refine V.eqM md_u0 ?_
        rw [shP_s]
        refine V.inc1 g0 d_X7_record_33 ?_
        refine V.goto g0 d_X7_record_36 ?_
        exact ih (f - 1) (by omega) (i + 1) (by omega)
    exact V.eqM (by rw [shP_0]) (LP 1866 0 rfl)

theorem d_X7_exchanges_0 : Dc cX7_exchanges 0 1 1 (.iconst 0) := ⟨by decide +kernel, rfl⟩
theorem d_X7_exchanges_1 : Dc cX7_exchanges 1 1 2 (.istore_n 1) := ⟨by decide +kernel, rfl⟩
theorem d_X7_exchanges_2 : Dc cX7_exchanges 2 1 3 (.iload_n 1) := ⟨by decide +kernel, rfl⟩
theorem d_X7_exchanges_3 : Dc cX7_exchanges 3 3 6 (.sipush 622) := ⟨by decide +kernel, rfl⟩
theorem d_X7_exchanges_6 : Dj cX7_exchanges 6 9 41 (.if_icmp .ge) := ⟨35, by decide +kernel, rfl, by decide⟩
theorem d_X7_exchanges_9 : Dc cX7_exchanges 9 1 10 (.aload_n 0) := ⟨by decide +kernel, rfl⟩
theorem d_X7_exchanges_10 : Dc cX7_exchanges 10 3 13 (.getfield 7) := ⟨by decide +kernel, rfl⟩
theorem d_X7_exchanges_13 : Dc cX7_exchanges 13 1 14 (.iload_n 1) := ⟨by decide +kernel, rfl⟩
theorem d_X7_exchanges_14 : Dc cX7_exchanges 14 1 15 .iaload := ⟨by decide +kernel, rfl⟩
theorem d_X7_exchanges_15 : Dc cX7_exchanges 15 1 16 (.istore_n 2) := ⟨by decide +kernel, rfl⟩
theorem d_X7_exchanges_16 : Dc cX7_exchanges 16 1 17 (.aload_n 0) := ⟨by decide +kernel, rfl⟩
theorem d_X7_exchanges_17 : Dc cX7_exchanges 17 3 20 (.getfield 7) := ⟨by decide +kernel, rfl⟩
theorem d_X7_exchanges_20 : Dc cX7_exchanges 20 1 21 (.iload_n 1) := ⟨by decide +kernel, rfl⟩
theorem d_X7_exchanges_21 : Dc cX7_exchanges 21 1 22 (.aload_n 0) := ⟨by decide +kernel, rfl⟩
theorem d_X7_exchanges_22 : Dc cX7_exchanges 22 3 25 (.getfield 13) := ⟨by decide +kernel, rfl⟩
theorem d_X7_exchanges_25 : Dc cX7_exchanges 25 1 26 (.iload_n 1) := ⟨by decide +kernel, rfl⟩
theorem d_X7_exchanges_26 : Dc cX7_exchanges 26 1 27 .iaload := ⟨by decide +kernel, rfl⟩
theorem d_X7_exchanges_27 : Dc cX7_exchanges 27 1 28 .iastore := ⟨by decide +kernel, rfl⟩
theorem d_X7_exchanges_28 : Dc cX7_exchanges 28 1 29 (.aload_n 0) := ⟨by decide +kernel, rfl⟩
theorem d_X7_exchanges_29 : Dc cX7_exchanges 29 3 32 (.getfield 13) := ⟨by decide +kernel, rfl⟩
theorem d_X7_exchanges_32 : Dc cX7_exchanges 32 1 33 (.iload_n 1) := ⟨by decide +kernel, rfl⟩
theorem d_X7_exchanges_33 : Dc cX7_exchanges 33 1 34 (.iload_n 2) := ⟨by decide +kernel, rfl⟩
theorem d_X7_exchanges_34 : Dc cX7_exchanges 34 1 35 .iastore := ⟨by decide +kernel, rfl⟩
theorem d_X7_exchanges_35 : Dc cX7_exchanges 35 3 38 (.iinc 1 1) := ⟨by decide +kernel, rfl⟩
theorem d_X7_exchanges_38 : Dj cX7_exchanges 38 41 2 .goto := ⟨(-36), by decide +kernel, rfl, by decide⟩
theorem d_X7_exchanges_41 : decode cX7_exchanges 41 = .ok (.return_, 1) := by decide +kernel
set_option maxHeartbeats 4000000 in
set_option maxRecDepth 20000 in
theorem c_X7_exchanges {E : Ev} {n : Nat} {M : Mem} {m : Nat} {s a sn tx : Int → Int} {H : Int → Int → Int} {kn kp ln st se sp wr le f1 f2 f3 f4 f5 sb : Int} : MT E yX7_exchanges cX7_exchanges 3 none 0 0 0 [.ref m] n (md E M m s a (hOf H) sn tx kn kp ln st se sp wr le f1 f2 f3 f4 f5 sb) ((PF none n (md E M m a s (hOf H) sn tx kn kp ln st se sp wr le f1 f2 f3 f4 f5 sb))) := by
  refine MT.of (by decide) rfl (Nat.le_of_ble_eq_true rfl) ?_
  intro X g
  have g0 := g.1
  show V E X 0 0 n (md E M m s a (hOf H) sn tx kn kp ln st se sp wr le f1 f2 f3 f4 f5 sb) 0 [some (.ref m), none, none] []
  refine V.iconst g0 d_X7_exchanges_0 ?_
  refine V.is1 g0 d_X7_exchanges_1 ?_
  have LP : ∀ (f i : Nat), i + f = 622 → V E X 0 0 n (md E M m (mixI i a s) (mixI i s a) (hOf H) sn tx kn kp ln st se sp wr le f1 f2 f3 f4 f5 sb) 2 [some (.ref m), some (.int (iI (i : Int))), none] [] := by
    intro f
    induction f using Nat.strongRecOn with
    | _ f ih =>
    intro i hf
    refine V.il1 g0 d_X7_exchanges_2 ?_
    refine V.sipush g0 d_X7_exchanges_3 (by decide) ?_
    refine V.icmpge g0 d_X7_exchanges_6 (by omega) (fun c_6 => ?_) (fun c_6 => ?_)
    · skip
      refine V.rep (h := a) md_1 (fun j h0 h1 => mixI_in a s h0 (by omega)) ?_
      refine V.eqM md_u1 ?_
      refine V.rep (h := s) md_2 (fun j h0 h1 => mixI_in s a h0 (by omega)) ?_
      refine V.eqM md_u2 ?_
      refine V.vret g d_X7_exchanges_41 (Nat.zero_le _) (Nat.zero_le _) ?_
      exact ⟨rfl, rfl, rfl⟩
    · skip
      refine V.al0 g0 d_X7_exchanges_9 ?_
      refine V.getf g0 d_X7_exchanges_10 fl_X7_7 (by first | exact md_0 | exact md_1 | exact md_2 | exact md_3 | exact md_4 | exact md_5) (by rfl) ?_
      refine V.il1 g0 d_X7_exchanges_13 ?_
      refine V.iald g0 d_X7_exchanges_14 (by first | exact md_0 | exact md_1 | exact md_2 | exact md_3 | exact md_4 | exact md_5) (by omega) (by decide) ?_
      rw [mixI_at]
      refine V.is2 g0 d_X7_exchanges_15 ?_
      refine V.al0 g0 d_X7_exchanges_16 ?_
      refine V.getf g0 d_X7_exchanges_17 fl_X7_7 (by first | exact md_0 | exact md_1 | exact md_2 | exact md_3 | exact md_4 | exact md_5) (by rfl) ?_
      refine V.il1 g0 d_X7_exchanges_20 ?_
      refine V.al0 g0 d_X7_exchanges_21 ?_
      refine V.getf g0 d_X7_exchanges_22 fl_X7_13 (by first | exact md_0 | exact md_1 | exact md_2 | exact md_3 | exact md_4 | exact md_5) (by rfl) ?_
      refine V.il1 g0 d_X7_exchanges_25 ?_
      refine V.iald g0 d_X7_exchanges_26 (by first | exact md_0 | exact md_1 | exact md_2 | exact md_3 | exact md_4 | exact md_5) (by omega) (by decide) ?_
      rw [mixI_at]
      refine V.iast g0 d_X7_exchanges_27 (by first | exact md_0 | exact md_1 | exact md_2 | exact md_3 | exact md_4 | exact md_5) (by omega) (by decide) ?_
      first | refine V.eqM md_u1 ?_ | refine V.eqM md_u2 ?_ | refine V.eqM md_u3 ?_ | refine V.eqM md_u4 ?_ | refine V.eqM md_u5 ?_ | refine V.eqM md_u0 ?_
      rw [mixI_s]
      refine V.al0 g0 d_X7_exchanges_28 ?_
      refine V.getf g0 d_X7_exchanges_29 fl_X7_13 (by first | exact md_0 | exact md_1 | exact md_2 | exact md_3 | exact md_4 | exact md_5) (by rfl) ?_
      refine V.il1 g0 d_X7_exchanges_32 ?_
      refine V.il2 g0 d_X7_exchanges_33 ?_
      refine V.iast g0 d_X7_exchanges_34 (by first | exact md_0 | exact md_1 | exact md_2 | exact md_3 | exact md_4 | exact md_5) (by omega) (by decide) ?_
      first | refine V.eqM md_u1 ?_ | refine V.eqM md_u2 ?_ | refine V.eqM md_u3 ?_ | refine V.eqM md_u4 ?_ | refine V.eqM md_u5 ?_ | refine V.eqM md_u0 ?_
      rw [mixI_s]
      refine V.inc1 g0 d_X7_exchanges_35 ?_
      refine V.goto g0 d_X7_exchanges_38 ?_
      exact V.weak2 (ih (f - 1) (by omega) (i + 1) (by omega)) (lcLe_s (lcLe_s (lcLe_f lcLe_n)))
  exact V.eqM (by rw [mixI_0, mixI_0]) (LP 622 0 rfl)

theorem d_X7_issue_0 : Dc cX7_issue 0 1 1 (.iload_n 1) := ⟨by decide +kernel, rfl⟩
theorem d_X7_issue_1 : Dc cX7_issue 1 3 4 (.invokestatic 40) := ⟨by decide +kernel, rfl⟩
theorem d_X7_issue_4 : Dj cX7_issue 4 7 9 (.ifCond .ne) := ⟨5, by decide +kernel, rfl, by decide⟩
theorem d_X7_issue_7 : Dc cX7_issue 7 1 8 (.iconst (-1)) := ⟨by decide +kernel, rfl⟩
theorem d_X7_issue_8 : decode cX7_issue 8 = .ok (.ireturn, 1) := by decide +kernel
theorem d_X7_issue_9 : Dc cX7_issue 9 1 10 (.aload_n 0) := ⟨by decide +kernel, rfl⟩
theorem d_X7_issue_10 : Dc cX7_issue 10 3 13 (.getfield 7) := ⟨by decide +kernel, rfl⟩
theorem d_X7_issue_13 : Dc cX7_issue 13 3 16 (.sipush 619) := ⟨by decide +kernel, rfl⟩
theorem d_X7_issue_16 : Dc cX7_issue 16 1 17 .iaload := ⟨by decide +kernel, rfl⟩
theorem d_X7_issue_17 : Dc cX7_issue 17 2 19 (.bipush 6) := ⟨by decide +kernel, rfl⟩
theorem d_X7_issue_19 : Dj cX7_issue 19 22 25 (.if_icmp .ne) := ⟨6, by decide +kernel, rfl, by decide⟩
theorem d_X7_issue_22 : Dc cX7_issue 22 2 24 (.bipush (-3)) := ⟨by decide +kernel, rfl⟩
theorem d_X7_issue_24 : decode cX7_issue 24 = .ok (.ireturn, 1) := by decide +kernel
theorem d_X7_issue_25 : Dc cX7_issue 25 1 26 (.aload_n 0) := ⟨by decide +kernel, rfl⟩
theorem d_X7_issue_26 : Dc cX7_issue 26 3 29 (.invokevirtual 117) := ⟨by decide +kernel, rfl⟩
theorem d_X7_issue_29 : Dc cX7_issue 29 1 30 (.aload_n 0) := ⟨by decide +kernel, rfl⟩
theorem d_X7_issue_30 : Dc cX7_issue 30 3 33 (.getfield 7) := ⟨by decide +kernel, rfl⟩
theorem d_X7_issue_33 : Dc cX7_issue 33 3 36 (.sipush 619) := ⟨by decide +kernel, rfl⟩
theorem d_X7_issue_36 : Dc cX7_issue 36 1 37 .iaload := ⟨by decide +kernel, rfl⟩
theorem d_X7_issue_37 : Dc cX7_issue 37 1 38 (.istore_n 2) := ⟨by decide +kernel, rfl⟩
theorem d_X7_issue_38 : Dc cX7_issue 38 1 39 (.aload_n 0) := ⟨by decide +kernel, rfl⟩
theorem d_X7_issue_39 : Dc cX7_issue 39 3 42 (.getfield 7) := ⟨by decide +kernel, rfl⟩
theorem d_X7_issue_42 : Dc cX7_issue 42 3 45 (.sipush 619) := ⟨by decide +kernel, rfl⟩
theorem d_X7_issue_45 : Dc cX7_issue 45 1 46 .dup2 := ⟨by decide +kernel, rfl⟩
theorem d_X7_issue_46 : Dc cX7_issue 46 1 47 .iaload := ⟨by decide +kernel, rfl⟩
theorem d_X7_issue_47 : Dc cX7_issue 47 1 48 (.iconst 1) := ⟨by decide +kernel, rfl⟩
theorem d_X7_issue_48 : Dc cX7_issue 48 1 49 .iadd := ⟨by decide +kernel, rfl⟩
theorem d_X7_issue_49 : Dc cX7_issue 49 1 50 .iastore := ⟨by decide +kernel, rfl⟩
theorem d_X7_issue_50 : Dc cX7_issue 50 1 51 (.iconst 0) := ⟨by decide +kernel, rfl⟩
theorem d_X7_issue_51 : Dc cX7_issue 51 1 52 (.istore_n 3) := ⟨by decide +kernel, rfl⟩
theorem d_X7_issue_52 : Dc cX7_issue 52 1 53 (.iload_n 3) := ⟨by decide +kernel, rfl⟩
theorem d_X7_issue_53 : Dc cX7_issue 53 2 55 (.bipush 103) := ⟨by decide +kernel, rfl⟩
theorem d_X7_issue_55 : Dj cX7_issue 55 58 75 (.if_icmp .ge) := ⟨20, by decide +kernel, rfl, by decide⟩
theorem d_X7_issue_58 : Dc cX7_issue 58 1 59 (.aload_n 0) := ⟨by decide +kernel, rfl⟩
theorem d_X7_issue_59 : Dc cX7_issue 59 3 62 (.getfield 7) := ⟨by decide +kernel, rfl⟩
theorem d_X7_issue_62 : Dc cX7_issue 62 1 63 (.iload_n 2) := ⟨by decide +kernel, rfl⟩
theorem d_X7_issue_63 : Dc cX7_issue 63 1 64 (.iload_n 3) := ⟨by decide +kernel, rfl⟩
theorem d_X7_issue_64 : Dc cX7_issue 64 3 67 (.invokestatic 43) := ⟨by decide +kernel, rfl⟩
theorem d_X7_issue_67 : Dc cX7_issue 67 1 68 (.iconst 0) := ⟨by decide +kernel, rfl⟩
theorem d_X7_issue_68 : Dc cX7_issue 68 1 69 .iastore := ⟨by decide +kernel, rfl⟩
theorem d_X7_issue_69 : Dc cX7_issue 69 3 72 (.iinc 3 1) := ⟨by decide +kernel, rfl⟩
theorem d_X7_issue_72 : Dj cX7_issue 72 75 52 .goto := ⟨(-20), by decide +kernel, rfl, by decide⟩
theorem d_X7_issue_75 : Dc cX7_issue 75 1 76 (.aload_n 0) := ⟨by decide +kernel, rfl⟩
theorem d_X7_issue_76 : Dc cX7_issue 76 3 79 (.getfield 7) := ⟨by decide +kernel, rfl⟩
theorem d_X7_issue_79 : Dc cX7_issue 79 1 80 (.iload_n 2) := ⟨by decide +kernel, rfl⟩
theorem d_X7_issue_80 : Dc cX7_issue 80 1 81 (.iconst 0) := ⟨by decide +kernel, rfl⟩
theorem d_X7_issue_81 : Dc cX7_issue 81 3 84 (.invokestatic 43) := ⟨by decide +kernel, rfl⟩
theorem d_X7_issue_84 : Dc cX7_issue 84 1 85 (.iload_n 1) := ⟨by decide +kernel, rfl⟩
theorem d_X7_issue_85 : Dc cX7_issue 85 1 86 .iastore := ⟨by decide +kernel, rfl⟩
theorem d_X7_issue_86 : Dc cX7_issue 86 1 87 (.aload_n 0) := ⟨by decide +kernel, rfl⟩
theorem d_X7_issue_87 : Dc cX7_issue 87 3 90 (.getfield 7) := ⟨by decide +kernel, rfl⟩
theorem d_X7_issue_90 : Dc cX7_issue 90 1 91 (.iload_n 2) := ⟨by decide +kernel, rfl⟩
theorem d_X7_issue_91 : Dc cX7_issue 91 1 92 (.iconst 1) := ⟨by decide +kernel, rfl⟩
theorem d_X7_issue_92 : Dc cX7_issue 92 3 95 (.invokestatic 43) := ⟨by decide +kernel, rfl⟩
theorem d_X7_issue_95 : Dc cX7_issue 95 1 96 (.aload_n 0) := ⟨by decide +kernel, rfl⟩
theorem d_X7_issue_96 : Dc cX7_issue 96 3 99 (.getfield 7) := ⟨by decide +kernel, rfl⟩
theorem d_X7_issue_99 : Dc cX7_issue 99 3 102 (.sipush 618) := ⟨by decide +kernel, rfl⟩
theorem d_X7_issue_102 : Dc cX7_issue 102 1 103 .iaload := ⟨by decide +kernel, rfl⟩
theorem d_X7_issue_103 : Dc cX7_issue 103 1 104 .iastore := ⟨by decide +kernel, rfl⟩
theorem d_X7_issue_104 : Dc cX7_issue 104 1 105 (.aload_n 0) := ⟨by decide +kernel, rfl⟩
theorem d_X7_issue_105 : Dc cX7_issue 105 3 108 (.getfield 7) := ⟨by decide +kernel, rfl⟩
theorem d_X7_issue_108 : Dc cX7_issue 108 1 109 (.iload_n 2) := ⟨by decide +kernel, rfl⟩
theorem d_X7_issue_109 : Dc cX7_issue 109 1 110 (.iconst 2) := ⟨by decide +kernel, rfl⟩
theorem d_X7_issue_110 : Dc cX7_issue 110 3 113 (.invokestatic 43) := ⟨by decide +kernel, rfl⟩
theorem d_X7_issue_113 : Dc cX7_issue 113 1 114 (.iload_n 1) := ⟨by decide +kernel, rfl⟩
theorem d_X7_issue_114 : Dc cX7_issue 114 1 115 .iastore := ⟨by decide +kernel, rfl⟩
theorem d_X7_issue_115 : Dc cX7_issue 115 1 116 (.aload_n 0) := ⟨by decide +kernel, rfl⟩
theorem d_X7_issue_116 : Dc cX7_issue 116 1 117 (.iload_n 2) := ⟨by decide +kernel, rfl⟩
theorem d_X7_issue_117 : Dc cX7_issue 117 1 118 (.iload_n 1) := ⟨by decide +kernel, rfl⟩
theorem d_X7_issue_118 : Dc cX7_issue 118 3 121 (.invokevirtual 120) := ⟨by decide +kernel, rfl⟩
theorem d_X7_issue_121 : Dc cX7_issue 121 1 122 (.iload_n 2) := ⟨by decide +kernel, rfl⟩
theorem d_X7_issue_122 : decode cX7_issue 122 = .ok (.ireturn, 1) := by decide +kernel
set_option maxHeartbeats 4000000 in
set_option maxRecDepth 20000 in
theorem c_X7_issue {E : Ev} {n : Nat} {M : Mem} {m : Nat} {s a sn tx : Int → Int} {H : Int → Int → Int} {kn kp ln st se sp wr le f1 f2 f3 f4 f5 sb : Int} (hkn : 0 ≤ kn ∧ kn ≤ 4) (hO : Ok s) {h : Int} (h1 : rg h) : MT E yX7_issue cX7_issue 4 (some .int) 2 0 0 [.ref m, .int (iI h)] n (md E M m s a (hOf H) sn tx kn kp ln st se sp wr le f1 f2 f3 f4 f5 sb) ((PF (some (.int (iI (a_issue (s, H, kn, sn, kp, tx, ln, st, se) h).1))) n (MdA E M m (a_issue (s, H, kn, sn, kp, tx, ln, st, se) h).2 a sp wr le f1 f2 f3 f4 f5 sb))) := by
  refine MT.of (by decide) rfl (Nat.le_of_ble_eq_true rfl) ?_
  intro X g
  have g0 := g.1
  show V E X 0 0 n (md E M m s a (hOf H) sn tx kn kp ln st se sp wr le f1 f2 f3 f4 f5 sb) 0 [some (.ref m), some (.int (iI h)), none, none] []
  have hm := hO.many
  refine V.il1 g0 d_X7_issue_0 ?_
  refine V.callSp g0 (c_X7_isCountry h1) ky_X7_isCountry ks_X7_isCountry lk_X7_40 (Nat.le_of_ble_eq_true rfl) ⟨Nat.zero_le _, Nat.zero_le _⟩ rfl rfl (Nat.le_of_ble_eq_true rfl) d_X7_issue_1 ?_
  refine V.ifneB g0 d_X7_issue_4 (fun c_4 => ?_) (fun c_4 => ?_)
  · skip
    refine V.al0 g0 d_X7_issue_9 ?_
    refine V.getf g0 d_X7_issue_10 fl_X7_7 (by first | exact md_0 | exact md_1 | exact md_2 | exact md_3 | exact md_4 | exact md_5) (by rfl) ?_
    refine V.sipush g0 d_X7_issue_13 (by decide) ?_
    refine V.iald g0 d_X7_issue_16 (by first | exact md_0 | exact md_1 | exact md_2 | exact md_3 | exact md_4 | exact md_5) (by omega) (by decide) ?_
    refine V.bipush g0 d_X7_issue_17 (by decide) ?_
    refine V.icmpne g0 d_X7_issue_19 (by omega) (fun c_19 => ?_) (fun c_19 => ?_)
    · skip
      refine V.al0 g0 d_X7_issue_25 ?_
      refine V.callVf g0 (c_X7_record hkn) ky_X7_record ki_X7_record ks2_X7_record lk_X7_117 (by first | exact md_0 | exact md_1 | exact md_2 | exact md_3 | exact md_4 | exact md_5) rfl rfl (Nat.le_of_ble_eq_true rfl) ⟨Nat.zero_le _, Nat.zero_le _⟩ rfl rfl (Nat.le_of_ble_eq_true rfl) d_X7_issue_26 ?_
      refine V.al0 g0 d_X7_issue_29 ?_
      refine V.getf g0 d_X7_issue_30 fl_X7_7 (by first | exact md_0 | exact md_1 | exact md_2 | exact md_3 | exact md_4 | exact md_5) (by rfl) ?_
      refine V.sipush g0 d_X7_issue_33 (by decide) ?_
      refine V.iald g0 d_X7_issue_36 (by first | exact md_0 | exact md_1 | exact md_2 | exact md_3 | exact md_4 | exact md_5) (by omega) (by decide) ?_
      refine V.is2 g0 d_X7_issue_37 ?_
      refine V.al0 g0 d_X7_issue_38 ?_
      refine V.getf g0 d_X7_issue_39 fl_X7_7 (by first | exact md_0 | exact md_1 | exact md_2 | exact md_3 | exact md_4 | exact md_5) (by rfl) ?_
      refine V.sipush g0 d_X7_issue_42 (by decide) ?_
      refine V.dup2 g0 d_X7_issue_45 rfl rfl ?_
      refine V.iald g0 d_X7_issue_46 (by first | exact md_0 | exact md_1 | exact md_2 | exact md_3 | exact md_4 | exact md_5) (by omega) (by decide) ?_
      refine V.iconst g0 d_X7_issue_47 ?_
      refine V.iadd g0 d_X7_issue_48 ?_
      refine V.iast g0 d_X7_issue_49 (by first | exact md_0 | exact md_1 | exact md_2 | exact md_3 | exact md_4 | exact md_5) (by omega) (by decide) ?_
      first | refine V.eqM md_u1 ?_ | refine V.eqM md_u2 ?_ | refine V.eqM md_u3 ?_ | refine V.eqM md_u4 ?_ | refine V.eqM md_u5 ?_ | refine V.eqM md_u0 ?_
      refine V.iconst g0 d_X7_issue_50 ?_
      refine V.is3 g0 d_X7_issue_51 ?_
      have LP : ∀ (f i : Nat), i + f = 103 → V E X 0 0 n (md E M m (zeroS (upI s 619 (s 619 + 1)) (s 619) i) a (hOf (recH H s kn)) sn tx (recK kn) kp ln st se sp wr le f1 f2 f3 f4 f5 sb) 52 [some (.ref m), some (.int (iI h)), some (.int (iI (s 619))), some (.int (iI (i : Int)))] [] := by
        intro f
        induction f using Nat.strongRecOn with
        | _ f ih =>
        intro i hf
        refine V.il3 g0 d_X7_issue_52 ?_
        refine V.bipush g0 d_X7_issue_53 (by decide) ?_
        refine V.icmpge g0 d_X7_issue_55 (by omega) (fun c_55 => ?_) (fun c_55 => ?_)
        · skip
          rw [show i = 103 by omega]
          change V E X 0 0 n (md E M m (issueA s) a (hOf (recH H s kn)) sn tx (recK kn) kp ln st se sp wr le f1 f2 f3 f4 f5 sb) 75 [some (.ref m), some (.int (iI h)), some (.int (iI (s 619))), some (.int (iI ((103 : Nat) : Int)))] []
          refine V.al0 g0 d_X7_issue_75 ?_
          refine V.getf g0 d_X7_issue_76 fl_X7_7 (by first | exact md_0 | exact md_1 | exact md_2 | exact md_3 | exact md_4 | exact md_5) (by rfl) ?_
          refine V.il2 g0 d_X7_issue_79 ?_
          refine V.iconst g0 d_X7_issue_80 ?_
          refine V.callSp g0 c_X7_of ky_X7_of ks_X7_of lk_X7_43 (Nat.le_of_ble_eq_true rfl) ⟨Nat.zero_le _, Nat.zero_le _⟩ rfl rfl (Nat.le_of_ble_eq_true rfl) d_X7_issue_81 ?_
          refine V.il1 g0 d_X7_issue_84 ?_
          refine V.iast g0 d_X7_issue_85 (by first | exact md_0 | exact md_1 | exact md_2 | exact md_3 | exact md_4 | exact md_5) (by omega) (by decide) ?_
          first | refine V.eqM md_u1 ?_ | refine V.eqM md_u2 ?_ | refine V.eqM md_u3 ?_ | refine V.eqM md_u4 ?_ | refine V.eqM md_u5 ?_ | refine V.eqM md_u0 ?_
          refine V.al0 g0 d_X7_issue_86 ?_
          refine V.getf g0 d_X7_issue_87 fl_X7_7 (by first | exact md_0 | exact md_1 | exact md_2 | exact md_3 | exact md_4 | exact md_5) (by rfl) ?_
          refine V.il2 g0 d_X7_issue_90 ?_
          refine V.iconst g0 d_X7_issue_91 ?_
          refine V.callSp g0 c_X7_of ky_X7_of ks_X7_of lk_X7_43 (Nat.le_of_ble_eq_true rfl) ⟨Nat.zero_le _, Nat.zero_le _⟩ rfl rfl (Nat.le_of_ble_eq_true rfl) d_X7_issue_92 ?_
          refine V.al0 g0 d_X7_issue_95 ?_
          refine V.getf g0 d_X7_issue_96 fl_X7_7 (by first | exact md_0 | exact md_1 | exact md_2 | exact md_3 | exact md_4 | exact md_5) (by rfl) ?_
          refine V.sipush g0 d_X7_issue_99 (by decide) ?_
          refine V.iald g0 d_X7_issue_102 (by first | exact md_0 | exact md_1 | exact md_2 | exact md_3 | exact md_4 | exact md_5) (by omega) (by decide) ?_
          refine V.iast g0 d_X7_issue_103 (by first | exact md_0 | exact md_1 | exact md_2 | exact md_3 | exact md_4 | exact md_5) (by omega) (by decide) ?_
          first | refine V.eqM md_u1 ?_ | refine V.eqM md_u2 ?_ | refine V.eqM md_u3 ?_ | refine V.eqM md_u4 ?_ | refine V.eqM md_u5 ?_ | refine V.eqM md_u0 ?_
          refine V.al0 g0 d_X7_issue_104 ?_
          refine V.getf g0 d_X7_issue_105 fl_X7_7 (by first | exact md_0 | exact md_1 | exact md_2 | exact md_3 | exact md_4 | exact md_5) (by rfl) ?_
          refine V.il2 g0 d_X7_issue_108 ?_
          refine V.iconst g0 d_X7_issue_109 ?_
          refine V.callSp g0 c_X7_of ky_X7_of ks_X7_of lk_X7_43 (Nat.le_of_ble_eq_true rfl) ⟨Nat.zero_le _, Nat.zero_le _⟩ rfl rfl (Nat.le_of_ble_eq_true rfl) d_X7_issue_110 ?_
          refine V.il1 g0 d_X7_issue_113 ?_
          refine V.iast g0 d_X7_issue_114 (by first | exact md_0 | exact md_1 | exact md_2 | exact md_3 | exact md_4 | exact md_5) (by omega) (by decide) ?_
          first | refine V.eqM md_u1 ?_ | refine V.eqM md_u2 ?_ | refine V.eqM md_u3 ?_ | refine V.eqM md_u4 ?_ | refine V.eqM md_u5 ?_ | refine V.eqM md_u0 ?_
          refine V.al0 g0 d_X7_issue_115 ?_
          refine V.il2 g0 d_X7_issue_116 ?_
          refine V.il1 g0 d_X7_issue_117 ?_
          refine V.callVf g0 (c_X7_begins (s := issueD s h) md_MS (by omega)) ky_X7_begins ki_X7_begins ks2_X7_begins lk_X7_120 (by first | exact md_0 | exact md_1 | exact md_2 | exact md_3 | exact md_4 | exact md_5) rfl rfl (Nat.le_of_ble_eq_true rfl) ⟨Nat.zero_le _, Nat.zero_le _⟩ rfl rfl (Nat.le_of_ble_eq_true rfl) d_X7_issue_118 ?_
          refine V.eqM md_u1 ?_
          refine V.il2 g0 d_X7_issue_121 ?_
          refine V.iret g d_X7_issue_122 (Nat.zero_le _) (Nat.zero_le _) ?_
          have e : a_issue (s, H, kn, sn, kp, tx, ln, st, se) h = (s 619, recA (s, H, kn, sn, kp, tx, ln, st, se) (issueS s h)) := by rw [a_issue, if_neg (fun q => q c_4), if_neg c_19]
          rw [e]; exact ⟨rfl, rfl, rfl⟩
        · skip
          refine V.al0 g0 d_X7_issue_58 ?_
          refine V.getf g0 d_X7_issue_59 fl_X7_7 (by first | exact md_0 | exact md_1 | exact md_2 | exact md_3 | exact md_4 | exact md_5) (by rfl) ?_
          refine V.il2 g0 d_X7_issue_62 ?_
          refine V.il3 g0 d_X7_issue_63 ?_
          refine V.callSp g0 c_X7_of ky_X7_of ks_X7_of lk_X7_43 (Nat.le_of_ble_eq_true rfl) ⟨Nat.zero_le _, Nat.zero_le _⟩ rfl rfl (Nat.le_of_ble_eq_true rfl) d_X7_issue_64 ?_
          refine V.iconst g0 d_X7_issue_67 ?_
          refine V.iast g0 d_X7_issue_68 (by first | exact md_0 | exact md_1 | exact md_2 | exact md_3 | exact md_4 | exact md_5) (by omega) (by decide) ?_
          first | refine V.eqM md_u1 ?_ | refine V.eqM md_u2 ?_ | refine V.eqM md_u3 ?_ | refine V.eqM md_u4 ?_ | refine V.eqM md_u5 ?_ | refine V.eqM md_u0 ?_
          refine V.inc3 g0 d_X7_issue_69 ?_
          refine V.goto g0 d_X7_issue_72 ?_
          exact ih (f - 1) (by omega) (i + 1) (by omega)
      exact LP 103 0 rfl
    · skip
      refine V.bipush g0 d_X7_issue_22 (by decide) ?_
      refine V.iret g d_X7_issue_24 (Nat.zero_le _) (Nat.zero_le _) ?_
      have e : a_issue (s, H, kn, sn, kp, tx, ln, st, se) h = (-3, (s, H, kn, sn, kp, tx, ln, st, se)) := by rw [a_issue, if_neg (fun q => q c_4), if_pos c_19]
      rw [e]; exact ⟨rfl, rfl, rfl⟩
  · skip
    refine V.iconst g0 d_X7_issue_7 ?_
    refine V.iret g d_X7_issue_8 (Nat.zero_le _) (Nat.zero_le _) ?_
    have e : a_issue (s, H, kn, sn, kp, tx, ln, st, se) h = (-1, (s, H, kn, sn, kp, tx, ln, st, se)) := by rw [a_issue, if_pos c_4]
    rw [e]; exact ⟨rfl, rfl, rfl⟩

theorem d_X7_renew_0 : Dc cX7_renew 0 1 1 (.aload_n 0) := ⟨by decide +kernel, rfl⟩
theorem d_X7_renew_1 : Dc cX7_renew 1 1 2 (.iload_n 1) := ⟨by decide +kernel, rfl⟩
theorem d_X7_renew_2 : Dc cX7_renew 2 3 5 (.invokevirtual 36) := ⟨by decide +kernel, rfl⟩
theorem d_X7_renew_5 : Dj cX7_renew 5 8 10 (.ifCond .ne) := ⟨5, by decide +kernel, rfl, by decide⟩
theorem d_X7_renew_8 : Dc cX7_renew 8 1 9 (.iconst (-1)) := ⟨by decide +kernel, rfl⟩
theorem d_X7_renew_9 : decode cX7_renew 9 = .ok (.ireturn, 1) := by decide +kernel
theorem d_X7_renew_10 : Dc cX7_renew 10 1 11 (.aload_n 0) := ⟨by decide +kernel, rfl⟩
theorem d_X7_renew_11 : Dc cX7_renew 11 3 14 (.invokevirtual 117) := ⟨by decide +kernel, rfl⟩
theorem d_X7_renew_14 : Dc cX7_renew 14 1 15 (.aload_n 0) := ⟨by decide +kernel, rfl⟩
theorem d_X7_renew_15 : Dc cX7_renew 15 1 16 (.iload_n 1) := ⟨by decide +kernel, rfl⟩
theorem d_X7_renew_16 : Dc cX7_renew 16 2 18 (.bipush 8) := ⟨by decide +kernel, rfl⟩
theorem d_X7_renew_18 : Dc cX7_renew 18 3 21 (.invokevirtual 50) := ⟨by decide +kernel, rfl⟩
theorem d_X7_renew_21 : Dc cX7_renew 21 1 22 (.istore_n 2) := ⟨by decide +kernel, rfl⟩
theorem d_X7_renew_22 : Dc cX7_renew 22 1 23 (.aload_n 0) := ⟨by decide +kernel, rfl⟩
theorem d_X7_renew_23 : Dc cX7_renew 23 1 24 (.iload_n 1) := ⟨by decide +kernel, rfl⟩
theorem d_X7_renew_24 : Dc cX7_renew 24 1 25 (.aload_n 0) := ⟨by decide +kernel, rfl⟩
theorem d_X7_renew_25 : Dc cX7_renew 25 1 26 (.iload_n 1) := ⟨by decide +kernel, rfl⟩
theorem d_X7_renew_26 : Dc cX7_renew 26 1 27 (.iconst 2) := ⟨by decide +kernel, rfl⟩
theorem d_X7_renew_27 : Dc cX7_renew 27 3 30 (.invokevirtual 50) := ⟨by decide +kernel, rfl⟩
theorem d_X7_renew_30 : Dc cX7_renew 30 3 33 (.invokevirtual 120) := ⟨by decide +kernel, rfl⟩
theorem d_X7_renew_33 : Dc cX7_renew 33 1 34 (.iload_n 2) := ⟨by decide +kernel, rfl⟩
theorem d_X7_renew_34 : decode cX7_renew 34 = .ok (.ireturn, 1) := by decide +kernel
set_option maxHeartbeats 4000000 in
set_option maxRecDepth 20000 in
theorem c_X7_renew {E : Ev} {n : Nat} {M : Mem} {m : Nat} {s a sn tx : Int → Int} {H : Int → Int → Int} {kn kp ln st se sp wr le f1 f2 f3 f4 f5 sb : Int} (hkn : 0 ≤ kn ∧ kn ≤ 4) (hO : Ok s) {p : Int} (h1 : rg p) : MT E yX7_renew cX7_renew 3 (some .int) 2 0 0 [.ref m, .int (iI p)] n (md E M m s a (hOf H) sn tx kn kp ln st se sp wr le f1 f2 f3 f4 f5 sb) ((PF (some (.int (iI (a_renew (s, H, kn, sn, kp, tx, ln, st, se) p).1))) n (MdA E M m (a_renew (s, H, kn, sn, kp, tx, ln, st, se) p).2 a sp wr le f1 f2 f3 f4 f5 sb))) := by
  refine MT.of (by decide) rfl (Nat.le_of_ble_eq_true rfl) ?_
  intro X g
  have g0 := g.1
  show V E X 0 0 n (md E M m s a (hOf H) sn tx kn kp ln st se sp wr le f1 f2 f3 f4 f5 sb) 0 [some (.ref m), some (.int (iI p)), none] []
  have hm := hO.many
  refine V.al0 g0 d_X7_renew_0 ?_
  refine V.il1 g0 d_X7_renew_1 ?_
  refine V.callVp g0 (c_X7_isPassport md_MS h1 hm) ky_X7_isPassport ki_X7_isPassport ks2_X7_isPassport lk_X7_36 (by first | exact md_0 | exact md_1 | exact md_2 | exact md_3 | exact md_4 | exact md_5) rfl rfl (Nat.le_of_ble_eq_true rfl) ⟨Nat.zero_le _, Nat.zero_le _⟩ rfl rfl (Nat.le_of_ble_eq_true rfl) d_X7_renew_2 ?_
  refine V.ifneB g0 d_X7_renew_5 (fun c_5 => ?_) (fun c_5 => ?_)
  · skip
    refine V.al0 g0 d_X7_renew_10 ?_
    refine V.callVf g0 (c_X7_record hkn) ky_X7_record ki_X7_record ks2_X7_record lk_X7_117 (by first | exact md_0 | exact md_1 | exact md_2 | exact md_3 | exact md_4 | exact md_5) rfl rfl (Nat.le_of_ble_eq_true rfl) ⟨Nat.zero_le _, Nat.zero_le _⟩ rfl rfl (Nat.le_of_ble_eq_true rfl) d_X7_renew_11 ?_
    refine V.al0 g0 d_X7_renew_14 ?_
    refine V.il1 g0 d_X7_renew_15 ?_
    refine V.bipush g0 d_X7_renew_16 (by decide) ?_
    refine V.callVp g0 (c_X7_get md_MS (by omega)) ky_X7_get ki_X7_get ks2_X7_get lk_X7_50 (by first | exact md_0 | exact md_1 | exact md_2 | exact md_3 | exact md_4 | exact md_5) rfl rfl (Nat.le_of_ble_eq_true rfl) ⟨Nat.zero_le _, Nat.zero_le _⟩ rfl rfl (Nat.le_of_ble_eq_true rfl) d_X7_renew_18 ?_
    refine V.is2 g0 d_X7_renew_21 ?_
    refine V.al0 g0 d_X7_renew_22 ?_
    refine V.il1 g0 d_X7_renew_23 ?_
    refine V.al0 g0 d_X7_renew_24 ?_
    refine V.il1 g0 d_X7_renew_25 ?_
    refine V.iconst g0 d_X7_renew_26 ?_
    refine V.callVp g0 (c_X7_get md_MS (by omega)) ky_X7_get ki_X7_get ks2_X7_get lk_X7_50 (by first | exact md_0 | exact md_1 | exact md_2 | exact md_3 | exact md_4 | exact md_5) rfl rfl (Nat.le_of_ble_eq_true rfl) ⟨Nat.zero_le _, Nat.zero_le _⟩ rfl rfl (Nat.le_of_ble_eq_true rfl) d_X7_renew_27 ?_
    refine V.callVf g0 (c_X7_begins md_MS (by omega)) ky_X7_begins ki_X7_begins ks2_X7_begins lk_X7_120 (by first | exact md_0 | exact md_1 | exact md_2 | exact md_3 | exact md_4 | exact md_5) rfl rfl (Nat.le_of_ble_eq_true rfl) ⟨Nat.zero_le _, Nat.zero_le _⟩ rfl rfl (Nat.le_of_ble_eq_true rfl) d_X7_renew_30 ?_
    refine V.eqM md_u1 ?_
    refine V.il2 g0 d_X7_renew_33 ?_
    refine V.iret g d_X7_renew_34 (Nat.zero_le _) (Nat.zero_le _) ?_
    have e : a_renew (s, H, kn, sn, kp, tx, ln, st, se) p = (s (103 * p + 8), recA (s, H, kn, sn, kp, tx, ln, st, se) (beginS s p (s (103 * p + 2)))) := by rw [a_renew, if_neg (fun q => q c_5)]
    rw [e]; exact ⟨rfl, rfl, rfl⟩
  · skip
    refine V.iconst g0 d_X7_renew_8 ?_
    refine V.iret g d_X7_renew_9 (Nat.zero_le _) (Nat.zero_le _) ?_
    have e : a_renew (s, H, kn, sn, kp, tx, ln, st, se) p = (-1, (s, H, kn, sn, kp, tx, ln, st, se)) := by rw [a_renew, if_pos c_5]
    rw [e]; exact ⟨rfl, rfl, rfl⟩

theorem d_X7_grant_0 : Dc cX7_grant 0 1 1 (.aload_n 0) := ⟨by decide +kernel, rfl⟩
theorem d_X7_grant_1 : Dc cX7_grant 1 1 2 (.iload_n 1) := ⟨by decide +kernel, rfl⟩
theorem d_X7_grant_2 : Dc cX7_grant 2 1 3 (.iload_n 2) := ⟨by decide +kernel, rfl⟩
theorem d_X7_grant_3 : Dc cX7_grant 3 1 4 (.iload_n 3) := ⟨by decide +kernel, rfl⟩
theorem d_X7_grant_4 : Dc cX7_grant 4 2 6 (.iload 4) := ⟨by decide +kernel, rfl⟩
theorem d_X7_grant_6 : Dc cX7_grant 6 2 8 (.iload 5) := ⟨by decide +kernel, rfl⟩
theorem d_X7_grant_8 : Dc cX7_grant 8 3 11 (.invokevirtual 124) := ⟨by decide +kernel, rfl⟩
theorem d_X7_grant_11 : Dc cX7_grant 11 2 13 (.istore 6) := ⟨by decide +kernel, rfl⟩
theorem d_X7_grant_13 : Dc cX7_grant 13 2 15 (.iload 6) := ⟨by decide +kernel, rfl⟩
theorem d_X7_grant_15 : Dj cX7_grant 15 18 21 (.ifCond .eq) := ⟨6, by decide +kernel, rfl, by decide⟩
theorem d_X7_grant_18 : Dc cX7_grant 18 2 20 (.iload 6) := ⟨by decide +kernel, rfl⟩
theorem d_X7_grant_20 : decode cX7_grant 20 = .ok (.ireturn, 1) := by decide +kernel
theorem d_X7_grant_21 : Dc cX7_grant 21 1 22 (.aload_n 0) := ⟨by decide +kernel, rfl⟩
theorem d_X7_grant_22 : Dc cX7_grant 22 3 25 (.invokevirtual 117) := ⟨by decide +kernel, rfl⟩
theorem d_X7_grant_25 : Dc cX7_grant 25 1 26 (.aload_n 0) := ⟨by decide +kernel, rfl⟩
theorem d_X7_grant_26 : Dc cX7_grant 26 1 27 (.iload_n 1) := ⟨by decide +kernel, rfl⟩
theorem d_X7_grant_27 : Dc cX7_grant 27 1 28 (.iload_n 2) := ⟨by decide +kernel, rfl⟩
theorem d_X7_grant_28 : Dc cX7_grant 28 1 29 (.iload_n 3) := ⟨by decide +kernel, rfl⟩
theorem d_X7_grant_29 : Dc cX7_grant 29 2 31 (.iload 4) := ⟨by decide +kernel, rfl⟩
theorem d_X7_grant_31 : Dc cX7_grant 31 2 33 (.iload 5) := ⟨by decide +kernel, rfl⟩
theorem d_X7_grant_33 : Dc cX7_grant 33 3 36 (.invokevirtual 127) := ⟨by decide +kernel, rfl⟩
theorem d_X7_grant_36 : decode cX7_grant 36 = .ok (.ireturn, 1) := by decide +kernel
set_option maxHeartbeats 4000000 in
set_option maxRecDepth 20000 in
theorem c_X7_grant {E : Ev} {n : Nat} {M : Mem} {m : Nat} {s a sn tx : Int → Int} {H : Int → Int → Int} {kn kp ln st se sp wr le f1 f2 f3 f4 f5 sb : Int} (hkn : 0 ≤ kn ∧ kn ≤ 4) (hO : Ok s) {p c x u d : Int} (h1 : rg p) (h2 : rg c) (h3 : rg x) (h4 : rg u) (h5 : rg d) : MT E yX7_grant cX7_grant 7 (some .int) 9 0 0 [.ref m, .int (iI p), .int (iI c), .int (iI x), .int (iI u), .int (iI d)] n (md E M m s a (hOf H) sn tx kn kp ln st se sp wr le f1 f2 f3 f4 f5 sb) ((PF (some (.int (iI (a_grant (s, H, kn, sn, kp, tx, ln, st, se) p c x u d).1))) n (MdA E M m (a_grant (s, H, kn, sn, kp, tx, ln, st, se) p c x u d).2 a sp wr le f1 f2 f3 f4 f5 sb))) := by
  refine MT.of (by decide) rfl (Nat.le_of_ble_eq_true rfl) ?_
  intro X g
  have g0 := g.1
  show V E X 0 0 n (md E M m s a (hOf H) sn tx kn kp ln st se sp wr le f1 f2 f3 f4 f5 sb) 0 [some (.ref m), some (.int (iI p)), some (.int (iI c)), some (.int (iI x)), some (.int (iI u)), some (.int (iI d)), none] []
  have hm := hO.many
  have heb := errGrant_b s p c x u d
  refine V.al0 g0 d_X7_grant_0 ?_
  refine V.il1 g0 d_X7_grant_1 ?_
  refine V.il2 g0 d_X7_grant_2 ?_
  refine V.il3 g0 d_X7_grant_3 ?_
  refine V.il4 g0 d_X7_grant_4 ?_
  refine V.il5 g0 d_X7_grant_6 ?_
  refine V.callVp g0 (c_X7_errorOfGrant md_MS hO h1 h2 h3 h4 h5) ky_X7_errorOfGrant ki_X7_errorOfGrant ks2_X7_errorOfGrant lk_X7_124 (by first | exact md_0 | exact md_1 | exact md_2 | exact md_3 | exact md_4 | exact md_5) rfl rfl (Nat.le_of_ble_eq_true rfl) ⟨Nat.zero_le _, Nat.zero_le _⟩ rfl rfl (Nat.le_of_ble_eq_true rfl) d_X7_grant_8 ?_
  refine V.is6 g0 d_X7_grant_11 ?_
  refine V.il6 g0 d_X7_grant_13 ?_
  refine V.ifeq g0 d_X7_grant_15 (by omega) (fun c_15 => ?_) (fun c_15 => ?_)
  · skip
    refine V.al0 g0 d_X7_grant_21 ?_
    have hg := errGrant_ok c_15
    refine V.callVf g0 (c_X7_record hkn) ky_X7_record ki_X7_record ks2_X7_record lk_X7_117 (by first | exact md_0 | exact md_1 | exact md_2 | exact md_3 | exact md_4 | exact md_5) rfl rfl (Nat.le_of_ble_eq_true rfl) ⟨Nat.zero_le _, Nat.zero_le _⟩ rfl rfl (Nat.le_of_ble_eq_true rfl) d_X7_grant_22 ?_
    refine V.al0 g0 d_X7_grant_25 ?_
    refine V.il1 g0 d_X7_grant_26 ?_
    refine V.il2 g0 d_X7_grant_27 ?_
    refine V.il3 g0 d_X7_grant_28 ?_
    refine V.il4 g0 d_X7_grant_29 ?_
    refine V.il5 g0 d_X7_grant_31 ?_
    refine V.callVf g0 (c_X7_grants md_MS hO hg.1 hg.2.1 hg.2.2.1 hg.2.2.2.1 hg.2.2.2.2.1) ky_X7_grants ki_X7_grants ks2_X7_grants lk_X7_127 (by first | exact md_0 | exact md_1 | exact md_2 | exact md_3 | exact md_4 | exact md_5) rfl rfl (Nat.le_of_ble_eq_true rfl) ⟨Nat.zero_le _, Nat.zero_le _⟩ rfl rfl (Nat.le_of_ble_eq_true rfl) d_X7_grant_33 ?_
    refine V.eqM md_u1 ?_
    refine V.iret g d_X7_grant_36 (Nat.zero_le _) (Nat.zero_le _) ?_
    have e : a_grant (s, H, kn, sn, kp, tx, ln, st, se) p c x u d = (usedOn (grantS s p c x u d) p c (grantS s p c x u d 618), recA (s, H, kn, sn, kp, tx, ln, st, se) (grantS s p c x u d)) := by rw [a_grant, if_neg (fun q => q c_15)]
    rw [e]; exact ⟨rfl, rfl, rfl⟩
  · skip
    refine V.il6 g0 d_X7_grant_18 ?_
    refine V.iret g d_X7_grant_20 (Nat.zero_le _) (Nat.zero_le _) ?_
    have e : a_grant (s, H, kn, sn, kp, tx, ln, st, se) p c x u d = (errGrant s p c x u d, (s, H, kn, sn, kp, tx, ln, st, se)) := by rw [a_grant, if_pos c_15]
    rw [e]; exact ⟨rfl, rfl, rfl⟩

theorem d_X7_revoke_0 : Dc cX7_revoke 0 1 1 (.aload_n 0) := ⟨by decide +kernel, rfl⟩
theorem d_X7_revoke_1 : Dc cX7_revoke 1 1 2 (.iload_n 1) := ⟨by decide +kernel, rfl⟩
theorem d_X7_revoke_2 : Dc cX7_revoke 2 1 3 (.iload_n 2) := ⟨by decide +kernel, rfl⟩
theorem d_X7_revoke_3 : Dc cX7_revoke 3 3 6 (.invokevirtual 101) := ⟨by decide +kernel, rfl⟩
theorem d_X7_revoke_6 : Dj cX7_revoke 6 9 11 (.ifCond .ne) := ⟨5, by decide +kernel, rfl, by decide⟩
theorem d_X7_revoke_9 : Dc cX7_revoke 9 1 10 (.iconst (-1)) := ⟨by decide +kernel, rfl⟩
theorem d_X7_revoke_10 : decode cX7_revoke 10 = .ok (.ireturn, 1) := by decide +kernel
theorem d_X7_revoke_11 : Dc cX7_revoke 11 1 12 (.aload_n 0) := ⟨by decide +kernel, rfl⟩
theorem d_X7_revoke_12 : Dc cX7_revoke 12 1 13 (.iload_n 1) := ⟨by decide +kernel, rfl⟩
theorem d_X7_revoke_13 : Dc cX7_revoke 13 1 14 (.iload_n 2) := ⟨by decide +kernel, rfl⟩
theorem d_X7_revoke_14 : Dc cX7_revoke 14 3 17 (.invokevirtual 73) := ⟨by decide +kernel, rfl⟩
theorem d_X7_revoke_17 : Dj cX7_revoke 17 20 23 (.ifCond .ne) := ⟨6, by decide +kernel, rfl, by decide⟩
theorem d_X7_revoke_20 : Dc cX7_revoke 20 2 22 (.bipush (-5)) := ⟨by decide +kernel, rfl⟩
theorem d_X7_revoke_22 : decode cX7_revoke 22 = .ok (.ireturn, 1) := by decide +kernel
theorem d_X7_revoke_23 : Dc cX7_revoke 23 1 24 (.aload_n 0) := ⟨by decide +kernel, rfl⟩
theorem d_X7_revoke_24 : Dc cX7_revoke 24 3 27 (.invokevirtual 117) := ⟨by decide +kernel, rfl⟩
theorem d_X7_revoke_27 : Dc cX7_revoke 27 1 28 (.aload_n 0) := ⟨by decide +kernel, rfl⟩
theorem d_X7_revoke_28 : Dc cX7_revoke 28 1 29 (.iload_n 1) := ⟨by decide +kernel, rfl⟩
theorem d_X7_revoke_29 : Dc cX7_revoke 29 1 30 (.iload_n 2) := ⟨by decide +kernel, rfl⟩
theorem d_X7_revoke_30 : Dc cX7_revoke 30 3 33 (.invokevirtual 89) := ⟨by decide +kernel, rfl⟩
theorem d_X7_revoke_33 : Dc cX7_revoke 33 1 34 (.istore_n 3) := ⟨by decide +kernel, rfl⟩
theorem d_X7_revoke_34 : Dc cX7_revoke 34 1 35 (.aload_n 0) := ⟨by decide +kernel, rfl⟩
theorem d_X7_revoke_35 : Dc cX7_revoke 35 3 38 (.getfield 7) := ⟨by decide +kernel, rfl⟩
theorem d_X7_revoke_38 : Dc cX7_revoke 38 1 39 (.iload_n 1) := ⟨by decide +kernel, rfl⟩
theorem d_X7_revoke_39 : Dc cX7_revoke 39 2 41 (.bipush 25) := ⟨by decide +kernel, rfl⟩
theorem d_X7_revoke_41 : Dc cX7_revoke 41 1 42 (.iconst 3) := ⟨by decide +kernel, rfl⟩
theorem d_X7_revoke_42 : Dc cX7_revoke 42 1 43 (.iload_n 2) := ⟨by decide +kernel, rfl⟩
theorem d_X7_revoke_43 : Dc cX7_revoke 43 1 44 .imul := ⟨by decide +kernel, rfl⟩
theorem d_X7_revoke_44 : Dc cX7_revoke 44 1 45 .iadd := ⟨by decide +kernel, rfl⟩
theorem d_X7_revoke_45 : Dc cX7_revoke 45 1 46 (.iconst 2) := ⟨by decide +kernel, rfl⟩
theorem d_X7_revoke_46 : Dc cX7_revoke 46 1 47 .iadd := ⟨by decide +kernel, rfl⟩
theorem d_X7_revoke_47 : Dc cX7_revoke 47 3 50 (.invokestatic 43) := ⟨by decide +kernel, rfl⟩
theorem d_X7_revoke_50 : Dc cX7_revoke 50 1 51 (.iconst 0) := ⟨by decide +kernel, rfl⟩
theorem d_X7_revoke_51 : Dc cX7_revoke 51 1 52 .iastore := ⟨by decide +kernel, rfl⟩
theorem d_X7_revoke_52 : Dc cX7_revoke 52 1 53 (.iload_n 3) := ⟨by decide +kernel, rfl⟩
theorem d_X7_revoke_53 : decode cX7_revoke 53 = .ok (.ireturn, 1) := by decide +kernel
set_option maxHeartbeats 4000000 in
set_option maxRecDepth 20000 in
theorem c_X7_revoke {E : Ev} {n : Nat} {M : Mem} {m : Nat} {s a sn tx : Int → Int} {H : Int → Int → Int} {kn kp ln st se sp wr le f1 f2 f3 f4 f5 sb : Int} (hkn : 0 ≤ kn ∧ kn ≤ 4) (hO : Ok s) {p c : Int} (h1 : rg p) (h2 : rg c) : MT E yX7_revoke cX7_revoke 4 (some .int) 8 0 0 [.ref m, .int (iI p), .int (iI c)] n (md E M m s a (hOf H) sn tx kn kp ln st se sp wr le f1 f2 f3 f4 f5 sb) ((PF (some (.int (iI (a_revoke (s, H, kn, sn, kp, tx, ln, st, se) p c).1))) n (MdA E M m (a_revoke (s, H, kn, sn, kp, tx, ln, st, se) p c).2 a sp wr le f1 f2 f3 f4 f5 sb))) := by
  refine MT.of (by decide) rfl (Nat.le_of_ble_eq_true rfl) ?_
  intro X g
  have g0 := g.1
  show V E X 0 0 n (md E M m s a (hOf H) sn tx kn kp ln st se sp wr le f1 f2 f3 f4 f5 sb) 0 [some (.ref m), some (.int (iI p)), some (.int (iI c)), none] []
  have hm := hO.many
  refine V.al0 g0 d_X7_revoke_0 ?_
  refine V.il1 g0 d_X7_revoke_1 ?_
  refine V.il2 g0 d_X7_revoke_2 ?_
  refine V.callVp g0 (c_X7_areThere md_MS h1 h2 hm) ky_X7_areThere ki_X7_areThere ks2_X7_areThere lk_X7_101 (by first | exact md_0 | exact md_1 | exact md_2 | exact md_3 | exact md_4 | exact md_5) rfl rfl (Nat.le_of_ble_eq_true rfl) ⟨Nat.zero_le _, Nat.zero_le _⟩ rfl rfl (Nat.le_of_ble_eq_true rfl) d_X7_revoke_3 ?_
  refine V.ifneB g0 d_X7_revoke_6 (fun c_6 => ?_) (fun c_6 => ?_)
  · skip
    have hk := hO.at c_6.1.1 (by omega)
    have hp : 0 ≤ p ∧ p < 6 := by omega
    have hc : 0 ≤ c ∧ c < 6 := by omega
    refine V.al0 g0 d_X7_revoke_11 ?_
    refine V.il1 g0 d_X7_revoke_12 ?_
    refine V.il2 g0 d_X7_revoke_13 ?_
    refine V.callVp g0 (c_X7_hasVisa md_MS hk hp hc) ky_X7_hasVisa ki_X7_hasVisa ks2_X7_hasVisa lk_X7_73 (by first | exact md_0 | exact md_1 | exact md_2 | exact md_3 | exact md_4 | exact md_5) rfl rfl (Nat.le_of_ble_eq_true rfl) ⟨Nat.zero_le _, Nat.zero_le _⟩ rfl rfl (Nat.le_of_ble_eq_true rfl) d_X7_revoke_14 ?_
    refine V.ifneB g0 d_X7_revoke_17 (fun c_17 => ?_) (fun c_17 => ?_)
    · skip
      refine V.al0 g0 d_X7_revoke_23 ?_
      refine V.callVf g0 (c_X7_record hkn) ky_X7_record ki_X7_record ks2_X7_record lk_X7_117 (by first | exact md_0 | exact md_1 | exact md_2 | exact md_3 | exact md_4 | exact md_5) rfl rfl (Nat.le_of_ble_eq_true rfl) ⟨Nat.zero_le _, Nat.zero_le _⟩ rfl rfl (Nat.le_of_ble_eq_true rfl) d_X7_revoke_24 ?_
      refine V.al0 g0 d_X7_revoke_27 ?_
      refine V.il1 g0 d_X7_revoke_28 ?_
      refine V.il2 g0 d_X7_revoke_29 ?_
      refine V.callVp g0 (c_X7_used md_MS hk hp hc) ky_X7_used ki_X7_used ks2_X7_used lk_X7_89 (by first | exact md_0 | exact md_1 | exact md_2 | exact md_3 | exact md_4 | exact md_5) rfl rfl (Nat.le_of_ble_eq_true rfl) ⟨Nat.zero_le _, Nat.zero_le _⟩ rfl rfl (Nat.le_of_ble_eq_true rfl) d_X7_revoke_30 ?_
      refine V.is3 g0 d_X7_revoke_33 ?_
      refine V.al0 g0 d_X7_revoke_34 ?_
      refine V.getf g0 d_X7_revoke_35 fl_X7_7 (by first | exact md_0 | exact md_1 | exact md_2 | exact md_3 | exact md_4 | exact md_5) (by rfl) ?_
      refine V.il1 g0 d_X7_revoke_38 ?_
      refine V.bipush g0 d_X7_revoke_39 (by decide) ?_
      refine V.iconst g0 d_X7_revoke_41 ?_
      refine V.il2 g0 d_X7_revoke_42 ?_
      refine V.imul g0 d_X7_revoke_43 ?_
      refine V.iadd g0 d_X7_revoke_44 ?_
      refine V.iconst g0 d_X7_revoke_45 ?_
      refine V.iadd g0 d_X7_revoke_46 ?_
      refine V.callSp g0 c_X7_of ky_X7_of ks_X7_of lk_X7_43 (Nat.le_of_ble_eq_true rfl) ⟨Nat.zero_le _, Nat.zero_le _⟩ rfl rfl (Nat.le_of_ble_eq_true rfl) d_X7_revoke_47 ?_
      refine V.iconst g0 d_X7_revoke_50 ?_
      refine V.iast g0 d_X7_revoke_51 (by first | exact md_0 | exact md_1 | exact md_2 | exact md_3 | exact md_4 | exact md_5) (by omega) (by decide) ?_
      first | refine V.eqM md_u1 ?_ | refine V.eqM md_u2 ?_ | refine V.eqM md_u3 ?_ | refine V.eqM md_u4 ?_ | refine V.eqM md_u5 ?_ | refine V.eqM md_u0 ?_
      refine V.il3 g0 d_X7_revoke_52 ?_
      refine V.iret g d_X7_revoke_53 (Nat.zero_le _) (Nat.zero_le _) ?_
      have e : a_revoke (s, H, kn, sn, kp, tx, ln, st, se) p c = (usedOn s p c (s 618), recA (s, H, kn, sn, kp, tx, ln, st, se) (revokeS s p c)) := by rw [a_revoke, if_neg (fun q => q c_6), if_neg (fun q => q c_17)]
      rw [e]; exact ⟨rfl, rfl, rfl⟩
    · skip
      refine V.bipush g0 d_X7_revoke_20 (by decide) ?_
      refine V.iret g d_X7_revoke_22 (Nat.zero_le _) (Nat.zero_le _) ?_
      have e : a_revoke (s, H, kn, sn, kp, tx, ln, st, se) p c = (-5, (s, H, kn, sn, kp, tx, ln, st, se)) := by rw [a_revoke, if_neg (fun q => q c_6), if_pos c_17]
      rw [e]; exact ⟨rfl, rfl, rfl⟩
  · skip
    refine V.iconst g0 d_X7_revoke_9 ?_
    refine V.iret g d_X7_revoke_10 (Nat.zero_le _) (Nat.zero_le _) ?_
    have e : a_revoke (s, H, kn, sn, kp, tx, ln, st, se) p c = (-1, (s, H, kn, sn, kp, tx, ln, st, se)) := by rw [a_revoke, if_pos c_6]
    rw [e]; exact ⟨rfl, rfl, rfl⟩

theorem d_X7_turnBorder_0 : Dc cX7_turnBorder 0 1 1 (.iload_n 1) := ⟨by decide +kernel, rfl⟩
theorem d_X7_turnBorder_1 : Dc cX7_turnBorder 1 3 4 (.invokestatic 40) := ⟨by decide +kernel, rfl⟩
theorem d_X7_turnBorder_4 : Dj cX7_turnBorder 4 7 14 (.ifCond .eq) := ⟨10, by decide +kernel, rfl, by decide⟩
theorem d_X7_turnBorder_7 : Dc cX7_turnBorder 7 1 8 (.iload_n 2) := ⟨by decide +kernel, rfl⟩
theorem d_X7_turnBorder_8 : Dc cX7_turnBorder 8 3 11 (.invokestatic 40) := ⟨by decide +kernel, rfl⟩
theorem d_X7_turnBorder_11 : Dj cX7_turnBorder 11 14 16 (.ifCond .ne) := ⟨5, by decide +kernel, rfl, by decide⟩
theorem d_X7_turnBorder_14 : Dc cX7_turnBorder 14 1 15 (.iconst (-1)) := ⟨by decide +kernel, rfl⟩
theorem d_X7_turnBorder_15 : decode cX7_turnBorder 15 = .ok (.ireturn, 1) := by decide +kernel
theorem d_X7_turnBorder_16 : Dc cX7_turnBorder 16 1 17 (.iload_n 1) := ⟨by decide +kernel, rfl⟩
theorem d_X7_turnBorder_17 : Dc cX7_turnBorder 17 1 18 (.iload_n 2) := ⟨by decide +kernel, rfl⟩
theorem d_X7_turnBorder_18 : Dj cX7_turnBorder 18 21 24 (.if_icmp .ne) := ⟨6, by decide +kernel, rfl, by decide⟩
theorem d_X7_turnBorder_21 : Dc cX7_turnBorder 21 2 23 (.bipush (-2)) := ⟨by decide +kernel, rfl⟩
theorem d_X7_turnBorder_23 : decode cX7_turnBorder 23 = .ok (.ireturn, 1) := by decide +kernel
theorem d_X7_turnBorder_24 : Dc cX7_turnBorder 24 1 25 (.aload_n 0) := ⟨by decide +kernel, rfl⟩
theorem d_X7_turnBorder_25 : Dc cX7_turnBorder 25 3 28 (.invokevirtual 117) := ⟨by decide +kernel, rfl⟩
theorem d_X7_turnBorder_28 : Dc cX7_turnBorder 28 1 29 (.aload_n 0) := ⟨by decide +kernel, rfl⟩
theorem d_X7_turnBorder_29 : Dc cX7_turnBorder 29 3 32 (.getfield 7) := ⟨by decide +kernel, rfl⟩
theorem d_X7_turnBorder_32 : Dc cX7_turnBorder 32 3 35 (.sipush 620) := ⟨by decide +kernel, rfl⟩
theorem d_X7_turnBorder_35 : Dc cX7_turnBorder 35 1 36 .dup2 := ⟨by decide +kernel, rfl⟩
theorem d_X7_turnBorder_36 : Dc cX7_turnBorder 36 1 37 .iaload := ⟨by decide +kernel, rfl⟩
theorem d_X7_turnBorder_37 : Dc cX7_turnBorder 37 1 38 (.iload_n 1) := ⟨by decide +kernel, rfl⟩
theorem d_X7_turnBorder_38 : Dc cX7_turnBorder 38 1 39 (.iload_n 2) := ⟨by decide +kernel, rfl⟩
theorem d_X7_turnBorder_39 : Dc cX7_turnBorder 39 3 42 (.invokestatic 92) := ⟨by decide +kernel, rfl⟩
theorem d_X7_turnBorder_42 : Dc cX7_turnBorder 42 1 43 .ixor := ⟨by decide +kernel, rfl⟩
theorem d_X7_turnBorder_43 : Dc cX7_turnBorder 43 1 44 .iastore := ⟨by decide +kernel, rfl⟩
theorem d_X7_turnBorder_44 : Dc cX7_turnBorder 44 1 45 (.aload_n 0) := ⟨by decide +kernel, rfl⟩
theorem d_X7_turnBorder_45 : Dc cX7_turnBorder 45 3 48 (.invokevirtual 130) := ⟨by decide +kernel, rfl⟩
theorem d_X7_turnBorder_48 : decode cX7_turnBorder 48 = .ok (.ireturn, 1) := by decide +kernel
set_option maxHeartbeats 4000000 in
set_option maxRecDepth 20000 in
theorem c_X7_turnBorder {E : Ev} {n : Nat} {M : Mem} {m : Nat} {s a sn tx : Int → Int} {H : Int → Int → Int} {kn kp ln st se sp wr le f1 f2 f3 f4 f5 sb : Int} (hkn : 0 ≤ kn ∧ kn ≤ 4) (hO : Ok s) {p c : Int} (h1 : rg p) (h2 : rg c) : MT E yX7_turnBorder cX7_turnBorder 3 (some .int) 2 0 0 [.ref m, .int (iI p), .int (iI c)] n (md E M m s a (hOf H) sn tx kn kp ln st se sp wr le f1 f2 f3 f4 f5 sb) ((PF (some (.int (iI (a_turn (s, H, kn, sn, kp, tx, ln, st, se) p c).1))) n (MdA E M m (a_turn (s, H, kn, sn, kp, tx, ln, st, se) p c).2 a sp wr le f1 f2 f3 f4 f5 sb))) := by
  refine MT.of (by decide) rfl (Nat.le_of_ble_eq_true rfl) ?_
  intro X g
  have g0 := g.1
  show V E X 0 0 n (md E M m s a (hOf H) sn tx kn kp ln st se sp wr le f1 f2 f3 f4 f5 sb) 0 [some (.ref m), some (.int (iI p)), some (.int (iI c))] []
  have hm := hO.many
  have hcl := hO.clo
  refine V.il1 g0 d_X7_turnBorder_0 ?_
  refine V.callSp g0 (c_X7_isCountry h1) ky_X7_isCountry ks_X7_isCountry lk_X7_40 (Nat.le_of_ble_eq_true rfl) ⟨Nat.zero_le _, Nat.zero_le _⟩ rfl rfl (Nat.le_of_ble_eq_true rfl) d_X7_turnBorder_1 ?_
  refine V.ifeqB g0 d_X7_turnBorder_4 (fun c_4 => ?_) (fun c_4 => ?_)
  · skip
    have hno : ¬ ((0 ≤ p ∧ p ≤ 5) ∧ (0 ≤ c ∧ c ≤ 5)) := fun q => c_4 q.1
    refine V.iconst g0 d_X7_turnBorder_14 ?_
    refine V.iret g d_X7_turnBorder_15 (Nat.zero_le _) (Nat.zero_le _) ?_
    have e : a_turn (s, H, kn, sn, kp, tx, ln, st, se) p c = (-1, (s, H, kn, sn, kp, tx, ln, st, se)) := by rw [a_turn, if_pos hno]
    rw [e]; exact ⟨rfl, rfl, rfl⟩
  · skip
    refine V.il2 g0 d_X7_turnBorder_7 ?_
    refine V.callSp g0 (c_X7_isCountry h2) ky_X7_isCountry ks_X7_isCountry lk_X7_40 (Nat.le_of_ble_eq_true rfl) ⟨Nat.zero_le _, Nat.zero_le _⟩ rfl rfl (Nat.le_of_ble_eq_true rfl) d_X7_turnBorder_8 ?_
    refine V.ifneB g0 d_X7_turnBorder_11 (fun c_11 => ?_) (fun c_11 => ?_)
    · skip
      refine V.il1 g0 d_X7_turnBorder_16 ?_
      refine V.il2 g0 d_X7_turnBorder_17 ?_
      refine V.icmpne g0 d_X7_turnBorder_18 (by omega) (fun c_18 => ?_) (fun c_18 => ?_)
      · skip
        refine V.al0 g0 d_X7_turnBorder_24 ?_
        refine V.callVf g0 (c_X7_record hkn) ky_X7_record ki_X7_record ks2_X7_record lk_X7_117 (by first | exact md_0 | exact md_1 | exact md_2 | exact md_3 | exact md_4 | exact md_5) rfl rfl (Nat.le_of_ble_eq_true rfl) ⟨Nat.zero_le _, Nat.zero_le _⟩ rfl rfl (Nat.le_of_ble_eq_true rfl) d_X7_turnBorder_25 ?_
        refine V.al0 g0 d_X7_turnBorder_28 ?_
        refine V.getf g0 d_X7_turnBorder_29 fl_X7_7 (by first | exact md_0 | exact md_1 | exact md_2 | exact md_3 | exact md_4 | exact md_5) (by rfl) ?_
        refine V.sipush g0 d_X7_turnBorder_32 (by decide) ?_
        refine V.dup2 g0 d_X7_turnBorder_35 rfl rfl ?_
        refine V.iald g0 d_X7_turnBorder_36 (by first | exact md_0 | exact md_1 | exact md_2 | exact md_3 | exact md_4 | exact md_5) (by omega) (by decide) ?_
        refine V.il1 g0 d_X7_turnBorder_37 ?_
        refine V.il2 g0 d_X7_turnBorder_38 ?_
        refine V.callSp g0 (c_X7_border c_4 c_11 c_18) ky_X7_border ks_X7_border lk_X7_92 (Nat.le_of_ble_eq_true rfl) ⟨Nat.zero_le _, Nat.zero_le _⟩ rfl rfl (Nat.le_of_ble_eq_true rfl) d_X7_turnBorder_39 ?_
        refine V.ixor g0 d_X7_turnBorder_42 (iI_xorz hcl.1) ?_
        refine V.iast g0 d_X7_turnBorder_43 (by first | exact md_0 | exact md_1 | exact md_2 | exact md_3 | exact md_4 | exact md_5) (by omega) (by decide) ?_
        first | refine V.eqM md_u1 ?_ | refine V.eqM md_u2 ?_ | refine V.eqM md_u3 ?_ | refine V.eqM md_u4 ?_ | refine V.eqM md_u5 ?_ | refine V.eqM md_u0 ?_
        refine V.al0 g0 d_X7_turnBorder_44 ?_
        refine V.callVp g0 (c_X7_closed (s := turnS s p c) md_MS (hO.turn c_4 c_11 c_18).clo) ky_X7_closed ki_X7_closed ks2_X7_closed lk_X7_130 (by first | exact md_0 | exact md_1 | exact md_2 | exact md_3 | exact md_4 | exact md_5) rfl rfl (Nat.le_of_ble_eq_true rfl) ⟨Nat.zero_le _, Nat.zero_le _⟩ rfl rfl (Nat.le_of_ble_eq_true rfl) d_X7_turnBorder_45 ?_
        refine V.iret g d_X7_turnBorder_48 (Nat.zero_le _) (Nat.zero_le _) ?_
        have e : a_turn (s, H, kn, sn, kp, tx, ln, st, se) p c = (closedN (turnS s p c), recA (s, H, kn, sn, kp, tx, ln, st, se) (turnS s p c)) := by rw [a_turn, if_neg (fun q => q ⟨c_4, c_11⟩), if_neg c_18]
        rw [e]; exact ⟨rfl, rfl, rfl⟩
      · skip
        refine V.bipush g0 d_X7_turnBorder_21 (by decide) ?_
        refine V.iret g d_X7_turnBorder_23 (Nat.zero_le _) (Nat.zero_le _) ?_
        have e : a_turn (s, H, kn, sn, kp, tx, ln, st, se) p c = (-2, (s, H, kn, sn, kp, tx, ln, st, se)) := by rw [a_turn, if_neg (fun q => q ⟨c_4, c_11⟩), if_pos c_18]
        rw [e]; exact ⟨rfl, rfl, rfl⟩
    · skip
      have hno : ¬ ((0 ≤ p ∧ p ≤ 5) ∧ (0 ≤ c ∧ c ≤ 5)) := fun q => c_11 q.2
      refine V.iconst g0 d_X7_turnBorder_14 ?_
      refine V.iret g d_X7_turnBorder_15 (Nat.zero_le _) (Nat.zero_le _) ?_
      have e : a_turn (s, H, kn, sn, kp, tx, ln, st, se) p c = (-1, (s, H, kn, sn, kp, tx, ln, st, se)) := by rw [a_turn, if_pos hno]
      rw [e]; exact ⟨rfl, rfl, rfl⟩

theorem d_X7_cross_0 : Dc cX7_cross 0 1 1 (.aload_n 0) := ⟨by decide +kernel, rfl⟩
theorem d_X7_cross_1 : Dc cX7_cross 1 1 2 (.iload_n 1) := ⟨by decide +kernel, rfl⟩
theorem d_X7_cross_2 : Dc cX7_cross 2 1 3 (.iload_n 2) := ⟨by decide +kernel, rfl⟩
theorem d_X7_cross_3 : Dc cX7_cross 3 1 4 (.iload_n 3) := ⟨by decide +kernel, rfl⟩
theorem d_X7_cross_4 : Dc cX7_cross 4 3 7 (.invokevirtual 134) := ⟨by decide +kernel, rfl⟩
theorem d_X7_cross_7 : Dc cX7_cross 7 2 9 (.istore 4) := ⟨by decide +kernel, rfl⟩
theorem d_X7_cross_9 : Dc cX7_cross 9 2 11 (.iload 4) := ⟨by decide +kernel, rfl⟩
theorem d_X7_cross_11 : Dj cX7_cross 11 14 17 (.ifCond .eq) := ⟨6, by decide +kernel, rfl, by decide⟩
theorem d_X7_cross_14 : Dc cX7_cross 14 2 16 (.iload 4) := ⟨by decide +kernel, rfl⟩
theorem d_X7_cross_16 : decode cX7_cross 16 = .ok (.ireturn, 1) := by decide +kernel
theorem d_X7_cross_17 : Dc cX7_cross 17 1 18 (.aload_n 0) := ⟨by decide +kernel, rfl⟩
theorem d_X7_cross_18 : Dc cX7_cross 18 3 21 (.invokevirtual 117) := ⟨by decide +kernel, rfl⟩
theorem d_X7_cross_21 : Dc cX7_cross 21 1 22 (.aload_n 0) := ⟨by decide +kernel, rfl⟩
theorem d_X7_cross_22 : Dc cX7_cross 22 1 23 (.iload_n 1) := ⟨by decide +kernel, rfl⟩
theorem d_X7_cross_23 : Dc cX7_cross 23 1 24 (.iload_n 2) := ⟨by decide +kernel, rfl⟩
theorem d_X7_cross_24 : Dc cX7_cross 24 1 25 (.iload_n 3) := ⟨by decide +kernel, rfl⟩
theorem d_X7_cross_25 : Dc cX7_cross 25 3 28 (.invokevirtual 137) := ⟨by decide +kernel, rfl⟩
theorem d_X7_cross_28 : decode cX7_cross 28 = .ok (.ireturn, 1) := by decide +kernel
set_option maxHeartbeats 4000000 in
set_option maxRecDepth 20000 in
theorem c_X7_cross {E : Ev} {n : Nat} {M : Mem} {m : Nat} {s a sn tx : Int → Int} {H : Int → Int → Int} {kn kp ln st se sp wr le f1 f2 f3 f4 f5 sb : Int} (hkn : 0 ≤ kn ∧ kn ≤ 4) (hO : Ok s) {p c f : Int} (h1 : rg p) (h2 : rg c) (h3 : rg f) : MT E yX7_cross cX7_cross 5 (some .int) 11 0 0 [.ref m, .int (iI p), .int (iI c), .int (iI f)] n (md E M m s a (hOf H) sn tx kn kp ln st se sp wr le f1 f2 f3 f4 f5 sb) ((PF (some (.int (iI (a_cross (s, H, kn, sn, kp, tx, ln, st, se) p c f).1))) n (MdA E M m (a_cross (s, H, kn, sn, kp, tx, ln, st, se) p c f).2 a sp wr le f1 f2 f3 f4 f5 sb))) := by
  refine MT.of (by decide) rfl (Nat.le_of_ble_eq_true rfl) ?_
  intro X g
  have g0 := g.1
  show V E X 0 0 n (md E M m s a (hOf H) sn tx kn kp ln st se sp wr le f1 f2 f3 f4 f5 sb) 0 [some (.ref m), some (.int (iI p)), some (.int (iI c)), some (.int (iI f)), none] []
  have hm := hO.many
  have heb := errCross_b s p c f
  refine V.al0 g0 d_X7_cross_0 ?_
  refine V.il1 g0 d_X7_cross_1 ?_
  refine V.il2 g0 d_X7_cross_2 ?_
  refine V.il3 g0 d_X7_cross_3 ?_
  refine V.callVp g0 (c_X7_errorOfCross md_MS hO h1 h2 h3) ky_X7_errorOfCross ki_X7_errorOfCross ks2_X7_errorOfCross lk_X7_134 (by first | exact md_0 | exact md_1 | exact md_2 | exact md_3 | exact md_4 | exact md_5) rfl rfl (Nat.le_of_ble_eq_true rfl) ⟨Nat.zero_le _, Nat.zero_le _⟩ rfl rfl (Nat.le_of_ble_eq_true rfl) d_X7_cross_4 ?_
  refine V.is4 g0 d_X7_cross_7 ?_
  refine V.il4 g0 d_X7_cross_9 ?_
  refine V.ifeq g0 d_X7_cross_11 (by omega) (fun c_11 => ?_) (fun c_11 => ?_)
  · skip
    refine V.al0 g0 d_X7_cross_17 ?_
    have hg := errCross_ok hO c_11
    refine V.callVf g0 (c_X7_record hkn) ky_X7_record ki_X7_record ks2_X7_record lk_X7_117 (by first | exact md_0 | exact md_1 | exact md_2 | exact md_3 | exact md_4 | exact md_5) rfl rfl (Nat.le_of_ble_eq_true rfl) ⟨Nat.zero_le _, Nat.zero_le _⟩ rfl rfl (Nat.le_of_ble_eq_true rfl) d_X7_cross_18 ?_
    refine V.al0 g0 d_X7_cross_21 ?_
    refine V.il1 g0 d_X7_cross_22 ?_
    refine V.il2 g0 d_X7_cross_23 ?_
    refine V.il3 g0 d_X7_cross_24 ?_
    refine V.callVf g0 (c_X7_crosses md_MS (hO.at hg.1.1 hg.1.2) (by omega) hg.2.1 hg.2.2.1 hg.2.2.2.2.1 hg.2.2.2.2.2.1) ky_X7_crosses ki_X7_crosses ks2_X7_crosses lk_X7_137 (by first | exact md_0 | exact md_1 | exact md_2 | exact md_3 | exact md_4 | exact md_5) rfl rfl (Nat.le_of_ble_eq_true rfl) ⟨Nat.zero_le _, Nat.zero_le _⟩ rfl rfl (Nat.le_of_ble_eq_true rfl) d_X7_cross_25 ?_
    refine V.eqM md_u1 ?_
    refine V.iret g d_X7_cross_28 (Nat.zero_le _) (Nat.zero_le _) ?_
    have e : a_cross (s, H, kn, sn, kp, tx, ln, st, se) p c f = (crossS s p c f (103 * p + 8), recA (s, H, kn, sn, kp, tx, ln, st, se) (crossS s p c f)) := by rw [a_cross, if_neg (fun q => q c_11)]
    rw [e]; exact ⟨rfl, rfl, rfl⟩
  · skip
    refine V.il4 g0 d_X7_cross_14 ?_
    refine V.iret g d_X7_cross_16 (Nat.zero_le _) (Nat.zero_le _) ?_
    have e : a_cross (s, H, kn, sn, kp, tx, ln, st, se) p c f = (errCross s p c f, (s, H, kn, sn, kp, tx, ln, st, se)) := by rw [a_cross, if_pos c_11]
    rw [e]; exact ⟨rfl, rfl, rfl⟩

theorem d_X7_pass_0 : Dc cX7_pass 0 1 1 (.aload_n 0) := ⟨by decide +kernel, rfl⟩
theorem d_X7_pass_1 : Dc cX7_pass 1 1 2 (.iload_n 1) := ⟨by decide +kernel, rfl⟩
theorem d_X7_pass_2 : Dc cX7_pass 2 3 5 (.invokevirtual 140) := ⟨by decide +kernel, rfl⟩
theorem d_X7_pass_5 : Dc cX7_pass 5 1 6 (.istore_n 2) := ⟨by decide +kernel, rfl⟩
theorem d_X7_pass_6 : Dc cX7_pass 6 1 7 (.iload_n 2) := ⟨by decide +kernel, rfl⟩
theorem d_X7_pass_7 : Dj cX7_pass 7 10 12 (.ifCond .eq) := ⟨5, by decide +kernel, rfl, by decide⟩
theorem d_X7_pass_10 : Dc cX7_pass 10 1 11 (.iload_n 2) := ⟨by decide +kernel, rfl⟩
theorem d_X7_pass_11 : decode cX7_pass 11 = .ok (.ireturn, 1) := by decide +kernel
theorem d_X7_pass_12 : Dc cX7_pass 12 1 13 (.aload_n 0) := ⟨by decide +kernel, rfl⟩
theorem d_X7_pass_13 : Dc cX7_pass 13 3 16 (.invokevirtual 117) := ⟨by decide +kernel, rfl⟩
theorem d_X7_pass_16 : Dc cX7_pass 16 1 17 (.aload_n 0) := ⟨by decide +kernel, rfl⟩
theorem d_X7_pass_17 : Dc cX7_pass 17 1 18 (.iload_n 1) := ⟨by decide +kernel, rfl⟩
theorem d_X7_pass_18 : Dc cX7_pass 18 3 21 (.invokevirtual 144) := ⟨by decide +kernel, rfl⟩
theorem d_X7_pass_21 : decode cX7_pass 21 = .ok (.ireturn, 1) := by decide +kernel
set_option maxHeartbeats 4000000 in
set_option maxRecDepth 20000 in
theorem c_X7_pass {E : Ev} {n : Nat} {M : Mem} {m : Nat} {s a sn tx : Int → Int} {H : Int → Int → Int} {kn kp ln st se sp wr le f1 f2 f3 f4 f5 sb : Int} (hkn : 0 ≤ kn ∧ kn ≤ 4) (hO : Ok s) {d : Int} (h1 : rg d) : MT E yX7_pass cX7_pass 3 (some .int) 9 0 0 [.ref m, .int (iI d)] n (md E M m s a (hOf H) sn tx kn kp ln st se sp wr le f1 f2 f3 f4 f5 sb) ((PF (some (.int (iI (a_pass (s, H, kn, sn, kp, tx, ln, st, se) d).1))) n (MdA E M m (a_pass (s, H, kn, sn, kp, tx, ln, st, se) d).2 a sp wr le f1 f2 f3 f4 f5 sb))) := by
  refine MT.of (by decide) rfl (Nat.le_of_ble_eq_true rfl) ?_
  intro X g
  have g0 := g.1
  show V E X 0 0 n (md E M m s a (hOf H) sn tx kn kp ln st se sp wr le f1 f2 f3 f4 f5 sb) 0 [some (.ref m), some (.int (iI d)), none] []
  have hm := hO.many
  have heb := errPass_b s d
  refine V.al0 g0 d_X7_pass_0 ?_
  refine V.il1 g0 d_X7_pass_1 ?_
  refine V.callVp g0 (c_X7_errorOfPass md_MS hO h1) ky_X7_errorOfPass ki_X7_errorOfPass ks2_X7_errorOfPass lk_X7_140 (by first | exact md_0 | exact md_1 | exact md_2 | exact md_3 | exact md_4 | exact md_5) rfl rfl (Nat.le_of_ble_eq_true rfl) ⟨Nat.zero_le _, Nat.zero_le _⟩ rfl rfl (Nat.le_of_ble_eq_true rfl) d_X7_pass_2 ?_
  refine V.is2 g0 d_X7_pass_5 ?_
  refine V.il2 g0 d_X7_pass_6 ?_
  refine V.ifeq g0 d_X7_pass_7 (by omega) (fun c_7 => ?_) (fun c_7 => ?_)
  · skip
    refine V.al0 g0 d_X7_pass_12 ?_
    have hg := errPass_ok c_7
    refine V.callVf g0 (c_X7_record hkn) ky_X7_record ki_X7_record ks2_X7_record lk_X7_117 (by first | exact md_0 | exact md_1 | exact md_2 | exact md_3 | exact md_4 | exact md_5) rfl rfl (Nat.le_of_ble_eq_true rfl) ⟨Nat.zero_le _, Nat.zero_le _⟩ rfl rfl (Nat.le_of_ble_eq_true rfl) d_X7_pass_13 ?_
    refine V.al0 g0 d_X7_pass_16 ?_
    refine V.il1 g0 d_X7_pass_17 ?_
    refine V.callVf g0 (c_X7_passes md_MS hO hg.1 hg.2) ky_X7_passes ki_X7_passes ks2_X7_passes lk_X7_144 (by first | exact md_0 | exact md_1 | exact md_2 | exact md_3 | exact md_4 | exact md_5) rfl rfl (Nat.le_of_ble_eq_true rfl) ⟨Nat.zero_le _, Nat.zero_le _⟩ rfl rfl (Nat.le_of_ble_eq_true rfl) d_X7_pass_18 ?_
    refine V.eqM md_u1 ?_
    refine V.iret g d_X7_pass_21 (Nat.zero_le _) (Nat.zero_le _) ?_
    have e : a_pass (s, H, kn, sn, kp, tx, ln, st, se) d = (daysN s d.toNat, recA (s, H, kn, sn, kp, tx, ln, st, se) (daysS s d.toNat)) := by rw [a_pass, if_neg (fun q => q c_7)]
    rw [e]; exact ⟨rfl, rfl, rfl⟩
  · skip
    refine V.il2 g0 d_X7_pass_10 ?_
    refine V.iret g d_X7_pass_11 (Nat.zero_le _) (Nat.zero_le _) ?_
    have e : a_pass (s, H, kn, sn, kp, tx, ln, st, se) d = (errPass s d, (s, H, kn, sn, kp, tx, ln, st, se)) := by rw [a_pass, if_pos c_7]
    rw [e]; exact ⟨rfl, rfl, rfl⟩

theorem d_X7_type_0 : Dc cX7_type 0 1 1 (.aload_n 0) := ⟨by decide +kernel, rfl⟩
theorem d_X7_type_1 : Dc cX7_type 1 3 4 (.getfield 147) := ⟨by decide +kernel, rfl⟩
theorem d_X7_type_4 : Dc cX7_type 4 2 6 (.bipush 60) := ⟨by decide +kernel, rfl⟩
theorem d_X7_type_6 : Dj cX7_type 6 9 12 (.if_icmp .ne) := ⟨6, by decide +kernel, rfl, by decide⟩
theorem d_X7_type_9 : Dc cX7_type 9 2 11 (.bipush (-3)) := ⟨by decide +kernel, rfl⟩
theorem d_X7_type_11 : decode cX7_type 11 = .ok (.ireturn, 1) := by decide +kernel
theorem d_X7_type_12 : Dc cX7_type 12 1 13 (.aload_n 0) := ⟨by decide +kernel, rfl⟩
theorem d_X7_type_13 : Dc cX7_type 13 3 16 (.getfield 22) := ⟨by decide +kernel, rfl⟩
theorem d_X7_type_16 : Dc cX7_type 16 1 17 (.aload_n 0) := ⟨by decide +kernel, rfl⟩
theorem d_X7_type_17 : Dc cX7_type 17 3 20 (.getfield 147) := ⟨by decide +kernel, rfl⟩
theorem d_X7_type_20 : Dc cX7_type 20 1 21 (.iload_n 1) := ⟨by decide +kernel, rfl⟩
theorem d_X7_type_21 : Dc cX7_type 21 1 22 .iastore := ⟨by decide +kernel, rfl⟩
theorem d_X7_type_22 : Dc cX7_type 22 1 23 (.aload_n 0) := ⟨by decide +kernel, rfl⟩
theorem d_X7_type_23 : Dc cX7_type 23 1 24 .dup := ⟨by decide +kernel, rfl⟩
theorem d_X7_type_24 : Dc cX7_type 24 3 27 (.getfield 147) := ⟨by decide +kernel, rfl⟩
theorem d_X7_type_27 : Dc cX7_type 27 1 28 (.iconst 1) := ⟨by decide +kernel, rfl⟩
theorem d_X7_type_28 : Dc cX7_type 28 1 29 .iadd := ⟨by decide +kernel, rfl⟩
theorem d_X7_type_29 : Dc cX7_type 29 3 32 (.putfield 147) := ⟨by decide +kernel, rfl⟩
theorem d_X7_type_32 : Dc cX7_type 32 1 33 (.aload_n 0) := ⟨by decide +kernel, rfl⟩
theorem d_X7_type_33 : Dc cX7_type 33 3 36 (.getfield 147) := ⟨by decide +kernel, rfl⟩
theorem d_X7_type_36 : decode cX7_type 36 = .ok (.ireturn, 1) := by decide +kernel
set_option maxHeartbeats 4000000 in
set_option maxRecDepth 20000 in
theorem c_X7_type {E : Ev} {n : Nat} {M : Mem} {m : Nat} {s a sn tx : Int → Int} {H : Int → Int → Int} {kn kp ln st se sp wr le f1 f2 f3 f4 f5 sb : Int} {ch : Int} (hln : 0 ≤ ln ∧ ln ≤ 60) : MT E yX7_type cX7_type 2 (some .int) 0 0 0 [.ref m, .int (iI ch)] n (md E M m s a (hOf H) sn tx kn kp ln st se sp wr le f1 f2 f3 f4 f5 sb) ((PF (some (.int (iI (a_type (s, H, kn, sn, kp, tx, ln, st, se) ch).1))) n (MdA E M m (a_type (s, H, kn, sn, kp, tx, ln, st, se) ch).2 a sp wr le f1 f2 f3 f4 f5 sb))) := by
  refine MT.of (by decide) rfl (Nat.le_of_ble_eq_true rfl) ?_
  intro X g
  have g0 := g.1
  show V E X 0 0 n (md E M m s a (hOf H) sn tx kn kp ln st se sp wr le f1 f2 f3 f4 f5 sb) 0 [some (.ref m), some (.int (iI ch))] []
  refine V.al0 g0 d_X7_type_0 ?_
  refine V.getf g0 d_X7_type_1 fl_X7_147 (by first | exact md_0 | exact md_1 | exact md_2 | exact md_3 | exact md_4 | exact md_5) (by rfl) ?_
  refine V.bipush g0 d_X7_type_4 (by decide) ?_
  refine V.icmpne g0 d_X7_type_6 (by omega) (fun c_6 => ?_) (fun c_6 => ?_)
  · skip
    refine V.al0 g0 d_X7_type_12 ?_
    refine V.getf g0 d_X7_type_13 fl_X7_22 (by first | exact md_0 | exact md_1 | exact md_2 | exact md_3 | exact md_4 | exact md_5) (by rfl) ?_
    refine V.al0 g0 d_X7_type_16 ?_
    refine V.getf g0 d_X7_type_17 fl_X7_147 (by first | exact md_0 | exact md_1 | exact md_2 | exact md_3 | exact md_4 | exact md_5) (by rfl) ?_
    refine V.il1 g0 d_X7_type_20 ?_
    refine V.iast g0 d_X7_type_21 (by first | exact md_0 | exact md_1 | exact md_2 | exact md_3 | exact md_4 | exact md_5) (by omega) (by decide) ?_
    first | refine V.eqM md_u1 ?_ | refine V.eqM md_u2 ?_ | refine V.eqM md_u3 ?_ | refine V.eqM md_u4 ?_ | refine V.eqM md_u5 ?_ | refine V.eqM md_u0 ?_
    refine V.al0 g0 d_X7_type_22 ?_
    refine V.dup g0 d_X7_type_23 rfl ?_
    refine V.getf g0 d_X7_type_24 fl_X7_147 (by first | exact md_0 | exact md_1 | exact md_2 | exact md_3 | exact md_4 | exact md_5) (by rfl) ?_
    refine V.iconst g0 d_X7_type_27 ?_
    refine V.iadd g0 d_X7_type_28 ?_
    refine V.putf g0 d_X7_type_29 fp_X7_147 (by first | exact md_0 | exact md_1 | exact md_2 | exact md_3 | exact md_4 | exact md_5) (Nat.le_of_ble_eq_true rfl) rfl rfl ?_
    first | refine V.eqM md_u1 ?_ | refine V.eqM md_u2 ?_ | refine V.eqM md_u3 ?_ | refine V.eqM md_u4 ?_ | refine V.eqM md_u5 ?_ | refine V.eqM md_u0 ?_
    refine V.al0 g0 d_X7_type_32 ?_
    refine V.getf g0 d_X7_type_33 fl_X7_147 (by first | exact md_0 | exact md_1 | exact md_2 | exact md_3 | exact md_4 | exact md_5) (by rfl) ?_
    refine V.iret g d_X7_type_36 (Nat.zero_le _) (Nat.zero_le _) ?_
    have e : a_type (s, H, kn, sn, kp, tx, ln, st, se) ch = (ln + 1, (s, H, kn, sn, kp, upI tx ln ch, ln + 1, st, se)) := by rw [a_type, if_neg c_6]
    rw [e]; exact ⟨rfl, rfl, rfl⟩
  · skip
    refine V.bipush g0 d_X7_type_9 (by decide) ?_
    refine V.iret g d_X7_type_11 (Nat.zero_le _) (Nat.zero_le _) ?_
    have e : a_type (s, H, kn, sn, kp, tx, ln, st, se) ch = (-3, (s, H, kn, sn, kp, tx, ln, st, se)) := by rw [a_type, if_pos c_6]
    rw [e]; exact ⟨rfl, rfl, rfl⟩

theorem d_X7_clearText_0 : Dc cX7_clearText 0 1 1 (.aload_n 0) := ⟨by decide +kernel, rfl⟩
theorem d_X7_clearText_1 : Dc cX7_clearText 1 3 4 (.getfield 147) := ⟨by decide +kernel, rfl⟩
theorem d_X7_clearText_4 : Dc cX7_clearText 4 1 5 (.istore_n 1) := ⟨by decide +kernel, rfl⟩
theorem d_X7_clearText_5 : Dc cX7_clearText 5 1 6 (.aload_n 0) := ⟨by decide +kernel, rfl⟩
theorem d_X7_clearText_6 : Dc cX7_clearText 6 1 7 (.iconst 0) := ⟨by decide +kernel, rfl⟩
theorem d_X7_clearText_7 : Dc cX7_clearText 7 3 10 (.putfield 147) := ⟨by decide +kernel, rfl⟩
theorem d_X7_clearText_10 : Dc cX7_clearText 10 1 11 (.iload_n 1) := ⟨by decide +kernel, rfl⟩
theorem d_X7_clearText_11 : decode cX7_clearText 11 = .ok (.ireturn, 1) := by decide +kernel
set_option maxHeartbeats 4000000 in
set_option maxRecDepth 20000 in
theorem c_X7_clearText {E : Ev} {n : Nat} {M : Mem} {m : Nat} {s a sn tx : Int → Int} {H : Int → Int → Int} {kn kp ln st se sp wr le f1 f2 f3 f4 f5 sb : Int} : MT E yX7_clearText cX7_clearText 2 (some .int) 0 0 0 [.ref m] n (md E M m s a (hOf H) sn tx kn kp ln st se sp wr le f1 f2 f3 f4 f5 sb) ((PF (some (.int (iI (a_clear (s, H, kn, sn, kp, tx, ln, st, se)).1))) n (MdA E M m (a_clear (s, H, kn, sn, kp, tx, ln, st, se)).2 a sp wr le f1 f2 f3 f4 f5 sb))) := by
  refine MT.of (by decide) rfl (Nat.le_of_ble_eq_true rfl) ?_
  intro X g
  have g0 := g.1
  show V E X 0 0 n (md E M m s a (hOf H) sn tx kn kp ln st se sp wr le f1 f2 f3 f4 f5 sb) 0 [some (.ref m), none] []
  refine V.al0 g0 d_X7_clearText_0 ?_
  refine V.getf g0 d_X7_clearText_1 fl_X7_147 (by first | exact md_0 | exact md_1 | exact md_2 | exact md_3 | exact md_4 | exact md_5) (by rfl) ?_
  refine V.is1 g0 d_X7_clearText_4 ?_
  refine V.al0 g0 d_X7_clearText_5 ?_
  refine V.iconst g0 d_X7_clearText_6 ?_
  refine V.putf g0 d_X7_clearText_7 fp_X7_147 (by first | exact md_0 | exact md_1 | exact md_2 | exact md_3 | exact md_4 | exact md_5) (Nat.le_of_ble_eq_true rfl) rfl rfl ?_
  first | refine V.eqM md_u1 ?_ | refine V.eqM md_u2 ?_ | refine V.eqM md_u3 ?_ | refine V.eqM md_u4 ?_ | refine V.eqM md_u5 ?_ | refine V.eqM md_u0 ?_
  refine V.il1 g0 d_X7_clearText_10 ?_
  refine V.iret g d_X7_clearText_11 (Nat.zero_le _) (Nat.zero_le _) ?_
  exact ⟨rfl, rfl, rfl⟩

theorem d_X7_undo_0 : Dc cX7_undo 0 1 1 (.aload_n 0) := ⟨by decide +kernel, rfl⟩
theorem d_X7_undo_1 : Dc cX7_undo 1 3 4 (.getfield 47) := ⟨by decide +kernel, rfl⟩
theorem d_X7_undo_4 : Dj cX7_undo 4 7 10 (.ifCond .ne) := ⟨6, by decide +kernel, rfl, by decide⟩
theorem d_X7_undo_7 : Dc cX7_undo 7 2 9 (.bipush (-5)) := ⟨by decide +kernel, rfl⟩
theorem d_X7_undo_9 : decode cX7_undo 9 = .ok (.ireturn, 1) := by decide +kernel
theorem d_X7_undo_10 : Dc cX7_undo 10 1 11 (.aload_n 0) := ⟨by decide +kernel, rfl⟩
theorem d_X7_undo_11 : Dc cX7_undo 11 1 12 .dup := ⟨by decide +kernel, rfl⟩
theorem d_X7_undo_12 : Dc cX7_undo 12 3 15 (.getfield 47) := ⟨by decide +kernel, rfl⟩
theorem d_X7_undo_15 : Dc cX7_undo 15 1 16 (.iconst 1) := ⟨by decide +kernel, rfl⟩
theorem d_X7_undo_16 : Dc cX7_undo 16 1 17 .isub := ⟨by decide +kernel, rfl⟩
theorem d_X7_undo_17 : Dc cX7_undo 17 3 20 (.putfield 47) := ⟨by decide +kernel, rfl⟩
theorem d_X7_undo_20 : Dc cX7_undo 20 1 21 (.iconst 0) := ⟨by decide +kernel, rfl⟩
theorem d_X7_undo_21 : Dc cX7_undo 21 1 22 (.istore_n 1) := ⟨by decide +kernel, rfl⟩
theorem d_X7_undo_22 : Dc cX7_undo 22 1 23 (.iload_n 1) := ⟨by decide +kernel, rfl⟩
theorem d_X7_undo_23 : Dc cX7_undo 23 3 26 (.sipush 622) := ⟨by decide +kernel, rfl⟩
theorem d_X7_undo_26 : Dj cX7_undo 26 29 56 (.if_icmp .ge) := ⟨30, by decide +kernel, rfl, by decide⟩
theorem d_X7_undo_29 : Dc cX7_undo 29 1 30 (.aload_n 0) := ⟨by decide +kernel, rfl⟩
theorem d_X7_undo_30 : Dc cX7_undo 30 3 33 (.getfield 7) := ⟨by decide +kernel, rfl⟩
theorem d_X7_undo_33 : Dc cX7_undo 33 1 34 (.iload_n 1) := ⟨by decide +kernel, rfl⟩
theorem d_X7_undo_34 : Dc cX7_undo 34 1 35 (.aload_n 0) := ⟨by decide +kernel, rfl⟩
theorem d_X7_undo_35 : Dc cX7_undo 35 3 38 (.getfield 16) := ⟨by decide +kernel, rfl⟩
theorem d_X7_undo_38 : Dc cX7_undo 38 3 41 (.sipush 622) := ⟨by decide +kernel, rfl⟩
theorem d_X7_undo_41 : Dc cX7_undo 41 1 42 (.aload_n 0) := ⟨by decide +kernel, rfl⟩
theorem d_X7_undo_42 : Dc cX7_undo 42 3 45 (.getfield 47) := ⟨by decide +kernel, rfl⟩
theorem d_X7_undo_45 : Dc cX7_undo 45 1 46 .imul := ⟨by decide +kernel, rfl⟩
theorem d_X7_undo_46 : Dc cX7_undo 46 1 47 (.iload_n 1) := ⟨by decide +kernel, rfl⟩
theorem d_X7_undo_47 : Dc cX7_undo 47 1 48 .iadd := ⟨by decide +kernel, rfl⟩
theorem d_X7_undo_48 : Dc cX7_undo 48 1 49 .iaload := ⟨by decide +kernel, rfl⟩
theorem d_X7_undo_49 : Dc cX7_undo 49 1 50 .iastore := ⟨by decide +kernel, rfl⟩
theorem d_X7_undo_50 : Dc cX7_undo 50 3 53 (.iinc 1 1) := ⟨by decide +kernel, rfl⟩
theorem d_X7_undo_53 : Dj cX7_undo 53 56 22 .goto := ⟨(-31), by decide +kernel, rfl, by decide⟩
theorem d_X7_undo_56 : Dc cX7_undo 56 1 57 (.aload_n 0) := ⟨by decide +kernel, rfl⟩
theorem d_X7_undo_57 : Dc cX7_undo 57 3 60 (.getfield 47) := ⟨by decide +kernel, rfl⟩
theorem d_X7_undo_60 : decode cX7_undo 60 = .ok (.ireturn, 1) := by decide +kernel
set_option maxHeartbeats 4000000 in
set_option maxRecDepth 20000 in
theorem c_X7_undo {E : Ev} {n : Nat} {M : Mem} {m : Nat} {s a sn tx : Int → Int} {H : Int → Int → Int} {kn kp ln st se sp wr le f1 f2 f3 f4 f5 sb : Int} (hkn : 0 ≤ kn ∧ kn ≤ 4) : MT E yX7_undo cX7_undo 2 (some .int) 0 0 0 [.ref m] n (md E M m s a (hOf H) sn tx kn kp ln st se sp wr le f1 f2 f3 f4 f5 sb) ((PF (some (.int (iI (a_undo (s, H, kn, sn, kp, tx, ln, st, se)).1))) n (MdA E M m (a_undo (s, H, kn, sn, kp, tx, ln, st, se)).2 a sp wr le f1 f2 f3 f4 f5 sb))) := by
  refine MT.of (by decide) rfl (Nat.le_of_ble_eq_true rfl) ?_
  intro X g
  have g0 := g.1
  show V E X 0 0 n (md E M m s a (hOf H) sn tx kn kp ln st se sp wr le f1 f2 f3 f4 f5 sb) 0 [some (.ref m), none] []
  refine V.al0 g0 d_X7_undo_0 ?_
  refine V.getf g0 d_X7_undo_1 fl_X7_47 (by first | exact md_0 | exact md_1 | exact md_2 | exact md_3 | exact md_4 | exact md_5) (by rfl) ?_
  refine V.ifne g0 d_X7_undo_4 (by omega) (fun c_4 => ?_) (fun c_4 => ?_)
  · skip
    refine V.al0 g0 d_X7_undo_10 ?_
    refine V.dup g0 d_X7_undo_11 rfl ?_
    refine V.getf g0 d_X7_undo_12 fl_X7_47 (by first | exact md_0 | exact md_1 | exact md_2 | exact md_3 | exact md_4 | exact md_5) (by rfl) ?_
    refine V.iconst g0 d_X7_undo_15 ?_
    refine V.isub g0 d_X7_undo_16 ?_
    refine V.putf g0 d_X7_undo_17 fp_X7_47 (by first | exact md_0 | exact md_1 | exact md_2 | exact md_3 | exact md_4 | exact md_5) (Nat.le_of_ble_eq_true rfl) rfl rfl ?_
    first | refine V.eqM md_u1 ?_ | refine V.eqM md_u2 ?_ | refine V.eqM md_u3 ?_ | refine V.eqM md_u4 ?_ | refine V.eqM md_u5 ?_ | refine V.eqM md_u0 ?_
    refine V.iconst g0 d_X7_undo_20 ?_
    refine V.is1 g0 d_X7_undo_21 ?_
    have LP : ∀ (f i : Nat), i + f = 622 → V E X 0 0 n (md E M m (mixI i (H (kn - 1)) s) a (hOf H) sn tx (kn - 1) kp ln st se sp wr le f1 f2 f3 f4 f5 sb) 22 [some (.ref m), some (.int (iI (i : Int)))] [] := by
      intro f
      induction f using Nat.strongRecOn with
      | _ f ih =>
      intro i hf
      refine V.il1 g0 d_X7_undo_22 ?_
      refine V.sipush g0 d_X7_undo_23 (by decide) ?_
      refine V.icmpge g0 d_X7_undo_26 (by omega) (fun c_26 => ?_) (fun c_26 => ?_)
      · skip
        refine V.rep (h := H (kn - 1)) md_1 (fun j h0 h1 => mixI_in _ s h0 (by omega)) ?_
        refine V.eqM md_u1 ?_
        refine V.al0 g0 d_X7_undo_56 ?_
        refine V.getf g0 d_X7_undo_57 fl_X7_47 (by first | exact md_0 | exact md_1 | exact md_2 | exact md_3 | exact md_4 | exact md_5) (by rfl) ?_
        refine V.iret g d_X7_undo_60 (Nat.zero_le _) (Nat.zero_le _) ?_
        have e : a_undo (s, H, kn, sn, kp, tx, ln, st, se) = (kn - 1, (H (kn - 1), H, kn - 1, sn, kp, tx, ln, st, se)) := by rw [a_undo, if_neg c_4]
        rw [e]; exact ⟨rfl, rfl, rfl⟩
      · skip
        refine V.al0 g0 d_X7_undo_29 ?_
        refine V.getf g0 d_X7_undo_30 fl_X7_7 (by first | exact md_0 | exact md_1 | exact md_2 | exact md_3 | exact md_4 | exact md_5) (by rfl) ?_
        refine V.il1 g0 d_X7_undo_33 ?_
        refine V.al0 g0 d_X7_undo_34 ?_
        refine V.getf g0 d_X7_undo_35 fl_X7_16 (by first | exact md_0 | exact md_1 | exact md_2 | exact md_3 | exact md_4 | exact md_5) (by rfl) ?_
        refine V.sipush g0 d_X7_undo_38 (by decide) ?_
        refine V.al0 g0 d_X7_undo_41 ?_
        refine V.getf g0 d_X7_undo_42 fl_X7_47 (by first | exact md_0 | exact md_1 | exact md_2 | exact md_3 | exact md_4 | exact md_5) (by rfl) ?_
        refine V.imul g0 d_X7_undo_45 ?_
        refine V.il1 g0 d_X7_undo_46 ?_
        refine V.iadd g0 d_X7_undo_47 ?_
        refine V.iald g0 d_X7_undo_48 (by first | exact md_0 | exact md_1 | exact md_2 | exact md_3 | exact md_4 | exact md_5) (by omega) (by decide) ?_
        rw [hOf_at H ⟨by omega, by omega⟩]
        refine V.iast g0 d_X7_undo_49 (by first | exact md_0 | exact md_1 | exact md_2 | exact md_3 | exact md_4 | exact md_5) (by omega) (by decide) ?_
        first | refine V.eqM md_u1 ?_ | refine V.eqM md_u2 ?_ | refine V.eqM md_u3 ?_ | refine V.eqM md_u4 ?_ | refine V.eqM md_u5 ?_ | refine V.eqM md_u0 ?_
        rw [mixI_s]
        refine V.inc1 g0 d_X7_undo_50 ?_
        refine V.goto g0 d_X7_undo_53 ?_
        exact ih (f - 1) (by omega) (i + 1) (by omega)
    exact V.eqM (by rw [mixI_0]) (LP 622 0 rfl)
  · skip
    refine V.bipush g0 d_X7_undo_7 (by decide) ?_
    refine V.iret g d_X7_undo_9 (Nat.zero_le _) (Nat.zero_le _) ?_
    have e : a_undo (s, H, kn, sn, kp, tx, ln, st, se) = (-5, (s, H, kn, sn, kp, tx, ln, st, se)) := by rw [a_undo, if_pos c_4]
    rw [e]; exact ⟨rfl, rfl, rfl⟩

theorem d_X7_keep_0 : Dc cX7_keep 0 1 1 (.iconst 0) := ⟨by decide +kernel, rfl⟩
theorem d_X7_keep_1 : Dc cX7_keep 1 1 2 (.istore_n 1) := ⟨by decide +kernel, rfl⟩
theorem d_X7_keep_2 : Dc cX7_keep 2 1 3 (.iload_n 1) := ⟨by decide +kernel, rfl⟩
theorem d_X7_keep_3 : Dc cX7_keep 3 3 6 (.sipush 622) := ⟨by decide +kernel, rfl⟩
theorem d_X7_keep_6 : Dj cX7_keep 6 9 27 (.if_icmp .ge) := ⟨21, by decide +kernel, rfl, by decide⟩
theorem d_X7_keep_9 : Dc cX7_keep 9 1 10 (.aload_n 0) := ⟨by decide +kernel, rfl⟩
theorem d_X7_keep_10 : Dc cX7_keep 10 3 13 (.getfield 19) := ⟨by decide +kernel, rfl⟩
theorem d_X7_keep_13 : Dc cX7_keep 13 1 14 (.iload_n 1) := ⟨by decide +kernel, rfl⟩
theorem d_X7_keep_14 : Dc cX7_keep 14 1 15 (.aload_n 0) := ⟨by decide +kernel, rfl⟩
theorem d_X7_keep_15 : Dc cX7_keep 15 3 18 (.getfield 7) := ⟨by decide +kernel, rfl⟩
theorem d_X7_keep_18 : Dc cX7_keep 18 1 19 (.iload_n 1) := ⟨by decide +kernel, rfl⟩
theorem d_X7_keep_19 : Dc cX7_keep 19 1 20 .iaload := ⟨by decide +kernel, rfl⟩
theorem d_X7_keep_20 : Dc cX7_keep 20 1 21 .iastore := ⟨by decide +kernel, rfl⟩
theorem d_X7_keep_21 : Dc cX7_keep 21 3 24 (.iinc 1 1) := ⟨by decide +kernel, rfl⟩
theorem d_X7_keep_24 : Dj cX7_keep 24 27 2 .goto := ⟨(-22), by decide +kernel, rfl, by decide⟩
theorem d_X7_keep_27 : Dc cX7_keep 27 1 28 (.aload_n 0) := ⟨by decide +kernel, rfl⟩
theorem d_X7_keep_28 : Dc cX7_keep 28 1 29 (.iconst 1) := ⟨by decide +kernel, rfl⟩
theorem d_X7_keep_29 : Dc cX7_keep 29 3 32 (.putfield 209) := ⟨by decide +kernel, rfl⟩
theorem d_X7_keep_32 : Dc cX7_keep 32 1 33 (.aload_n 0) := ⟨by decide +kernel, rfl⟩
theorem d_X7_keep_33 : Dc cX7_keep 33 3 36 (.getfield 7) := ⟨by decide +kernel, rfl⟩
theorem d_X7_keep_36 : Dc cX7_keep 36 3 39 (.sipush 618) := ⟨by decide +kernel, rfl⟩
theorem d_X7_keep_39 : Dc cX7_keep 39 1 40 .iaload := ⟨by decide +kernel, rfl⟩
theorem d_X7_keep_40 : decode cX7_keep 40 = .ok (.ireturn, 1) := by decide +kernel
set_option maxHeartbeats 4000000 in
set_option maxRecDepth 20000 in
theorem c_X7_keep {E : Ev} {n : Nat} {M : Mem} {m : Nat} {s a sn tx : Int → Int} {H : Int → Int → Int} {kn kp ln st se sp wr le f1 f2 f3 f4 f5 sb : Int} : MT E yX7_keep cX7_keep 2 (some .int) 0 0 0 [.ref m] n (md E M m s a (hOf H) sn tx kn kp ln st se sp wr le f1 f2 f3 f4 f5 sb) ((PF (some (.int (iI (a_keep (s, H, kn, sn, kp, tx, ln, st, se)).1))) n (MdA E M m (a_keep (s, H, kn, sn, kp, tx, ln, st, se)).2 a sp wr le f1 f2 f3 f4 f5 sb))) := by
  refine MT.of (by decide) rfl (Nat.le_of_ble_eq_true rfl) ?_
  intro X g
  have g0 := g.1
  show V E X 0 0 n (md E M m s a (hOf H) sn tx kn kp ln st se sp wr le f1 f2 f3 f4 f5 sb) 0 [some (.ref m), none] []
  refine V.iconst g0 d_X7_keep_0 ?_
  refine V.is1 g0 d_X7_keep_1 ?_
  have LP : ∀ (f i : Nat), i + f = 622 → V E X 0 0 n (md E M m s a (hOf H) (mixI i s sn) tx kn kp ln st se sp wr le f1 f2 f3 f4 f5 sb) 2 [some (.ref m), some (.int (iI (i : Int)))] [] := by
    intro f
    induction f using Nat.strongRecOn with
    | _ f ih =>
    intro i hf
    refine V.il1 g0 d_X7_keep_2 ?_
    refine V.sipush g0 d_X7_keep_3 (by decide) ?_
    refine V.icmpge g0 d_X7_keep_6 (by omega) (fun c_6 => ?_) (fun c_6 => ?_)
    · skip
      refine V.rep (h := s) md_4 (fun j h0 h1 => mixI_in s sn h0 (by omega)) ?_
      refine V.eqM md_u4 ?_
      refine V.al0 g0 d_X7_keep_27 ?_
      refine V.iconst g0 d_X7_keep_28 ?_
      refine V.putf g0 d_X7_keep_29 fp_X7_209 (by first | exact md_0 | exact md_1 | exact md_2 | exact md_3 | exact md_4 | exact md_5) (Nat.le_of_ble_eq_true rfl) (by decide) (by decide) ?_
      first | refine V.eqM md_u1 ?_ | refine V.eqM md_u2 ?_ | refine V.eqM md_u3 ?_ | refine V.eqM md_u4 ?_ | refine V.eqM md_u5 ?_ | refine V.eqM md_u0 ?_
      refine V.al0 g0 d_X7_keep_32 ?_
      refine V.getf g0 d_X7_keep_33 fl_X7_7 (by first | exact md_0 | exact md_1 | exact md_2 | exact md_3 | exact md_4 | exact md_5) (by rfl) ?_
      refine V.sipush g0 d_X7_keep_36 (by decide) ?_
      refine V.iald g0 d_X7_keep_39 (by first | exact md_0 | exact md_1 | exact md_2 | exact md_3 | exact md_4 | exact md_5) (by omega) (by decide) ?_
      refine V.iret g d_X7_keep_40 (Nat.zero_le _) (Nat.zero_le _) ?_
      exact ⟨rfl, rfl, rfl⟩
    · skip
      refine V.al0 g0 d_X7_keep_9 ?_
      refine V.getf g0 d_X7_keep_10 fl_X7_19 (by first | exact md_0 | exact md_1 | exact md_2 | exact md_3 | exact md_4 | exact md_5) (by rfl) ?_
      refine V.il1 g0 d_X7_keep_13 ?_
      refine V.al0 g0 d_X7_keep_14 ?_
      refine V.getf g0 d_X7_keep_15 fl_X7_7 (by first | exact md_0 | exact md_1 | exact md_2 | exact md_3 | exact md_4 | exact md_5) (by rfl) ?_
      refine V.il1 g0 d_X7_keep_18 ?_
      refine V.iald g0 d_X7_keep_19 (by first | exact md_0 | exact md_1 | exact md_2 | exact md_3 | exact md_4 | exact md_5) (by omega) (by decide) ?_
      refine V.iast g0 d_X7_keep_20 (by first | exact md_0 | exact md_1 | exact md_2 | exact md_3 | exact md_4 | exact md_5) (by omega) (by decide) ?_
      first | refine V.eqM md_u1 ?_ | refine V.eqM md_u2 ?_ | refine V.eqM md_u3 ?_ | refine V.eqM md_u4 ?_ | refine V.eqM md_u5 ?_ | refine V.eqM md_u0 ?_
      rw [mixI_s]
      refine V.inc1 g0 d_X7_keep_21 ?_
      refine V.goto g0 d_X7_keep_24 ?_
      exact ih (f - 1) (by omega) (i + 1) (by omega)
  exact V.eqM (by rw [mixI_0]) (LP 622 0 rfl)

theorem d_X7_restore_0 : Dc cX7_restore 0 1 1 (.aload_n 0) := ⟨by decide +kernel, rfl⟩
theorem d_X7_restore_1 : Dc cX7_restore 1 3 4 (.getfield 209) := ⟨by decide +kernel, rfl⟩
theorem d_X7_restore_4 : Dj cX7_restore 4 7 10 (.ifCond .ne) := ⟨6, by decide +kernel, rfl, by decide⟩
theorem d_X7_restore_7 : Dc cX7_restore 7 2 9 (.bipush (-5)) := ⟨by decide +kernel, rfl⟩
theorem d_X7_restore_9 : decode cX7_restore 9 = .ok (.ireturn, 1) := by decide +kernel
theorem d_X7_restore_10 : Dc cX7_restore 10 1 11 (.aload_n 0) := ⟨by decide +kernel, rfl⟩
theorem d_X7_restore_11 : Dc cX7_restore 11 3 14 (.invokevirtual 117) := ⟨by decide +kernel, rfl⟩
theorem d_X7_restore_14 : Dc cX7_restore 14 1 15 (.iconst 0) := ⟨by decide +kernel, rfl⟩
theorem d_X7_restore_15 : Dc cX7_restore 15 1 16 (.istore_n 1) := ⟨by decide +kernel, rfl⟩
theorem d_X7_restore_16 : Dc cX7_restore 16 1 17 (.iload_n 1) := ⟨by decide +kernel, rfl⟩
theorem d_X7_restore_17 : Dc cX7_restore 17 3 20 (.sipush 622) := ⟨by decide +kernel, rfl⟩
theorem d_X7_restore_20 : Dj cX7_restore 20 23 41 (.if_icmp .ge) := ⟨21, by decide +kernel, rfl, by decide⟩
theorem d_X7_restore_23 : Dc cX7_restore 23 1 24 (.aload_n 0) := ⟨by decide +kernel, rfl⟩
theorem d_X7_restore_24 : Dc cX7_restore 24 3 27 (.getfield 7) := ⟨by decide +kernel, rfl⟩
theorem d_X7_restore_27 : Dc cX7_restore 27 1 28 (.iload_n 1) := ⟨by decide +kernel, rfl⟩
theorem d_X7_restore_28 : Dc cX7_restore 28 1 29 (.aload_n 0) := ⟨by decide +kernel, rfl⟩
theorem d_X7_restore_29 : Dc cX7_restore 29 3 32 (.getfield 19) := ⟨by decide +kernel, rfl⟩
theorem d_X7_restore_32 : Dc cX7_restore 32 1 33 (.iload_n 1) := ⟨by decide +kernel, rfl⟩
theorem d_X7_restore_33 : Dc cX7_restore 33 1 34 .iaload := ⟨by decide +kernel, rfl⟩
theorem d_X7_restore_34 : Dc cX7_restore 34 1 35 .iastore := ⟨by decide +kernel, rfl⟩
theorem d_X7_restore_35 : Dc cX7_restore 35 3 38 (.iinc 1 1) := ⟨by decide +kernel, rfl⟩
theorem d_X7_restore_38 : Dj cX7_restore 38 41 16 .goto := ⟨(-22), by decide +kernel, rfl, by decide⟩
theorem d_X7_restore_41 : Dc cX7_restore 41 1 42 (.aload_n 0) := ⟨by decide +kernel, rfl⟩
theorem d_X7_restore_42 : Dc cX7_restore 42 3 45 (.getfield 7) := ⟨by decide +kernel, rfl⟩
theorem d_X7_restore_45 : Dc cX7_restore 45 3 48 (.sipush 618) := ⟨by decide +kernel, rfl⟩
theorem d_X7_restore_48 : Dc cX7_restore 48 1 49 .iaload := ⟨by decide +kernel, rfl⟩
theorem d_X7_restore_49 : decode cX7_restore 49 = .ok (.ireturn, 1) := by decide +kernel
set_option maxHeartbeats 4000000 in
set_option maxRecDepth 20000 in
theorem c_X7_restore {E : Ev} {n : Nat} {M : Mem} {m : Nat} {s a sn tx : Int → Int} {H : Int → Int → Int} {kn kp ln st se sp wr le f1 f2 f3 f4 f5 sb : Int} (hkn : 0 ≤ kn ∧ kn ≤ 4) (hkp : kp = 0 ∨ kp = 1) : MT E yX7_restore cX7_restore 2 (some .int) 1 0 0 [.ref m] n (md E M m s a (hOf H) sn tx kn kp ln st se sp wr le f1 f2 f3 f4 f5 sb) ((PF (some (.int (iI (a_restore (s, H, kn, sn, kp, tx, ln, st, se)).1))) n (MdA E M m (a_restore (s, H, kn, sn, kp, tx, ln, st, se)).2 a sp wr le f1 f2 f3 f4 f5 sb))) := by
  refine MT.of (by decide) rfl (Nat.le_of_ble_eq_true rfl) ?_
  intro X g
  have g0 := g.1
  show V E X 0 0 n (md E M m s a (hOf H) sn tx kn kp ln st se sp wr le f1 f2 f3 f4 f5 sb) 0 [some (.ref m), none] []
  refine V.al0 g0 d_X7_restore_0 ?_
  refine V.getf g0 d_X7_restore_1 fl_X7_209 (by first | exact md_0 | exact md_1 | exact md_2 | exact md_3 | exact md_4 | exact md_5) (by rfl) ?_
  refine V.ifne g0 d_X7_restore_4 (by omega) (fun c_4 => ?_) (fun c_4 => ?_)
  · skip
    refine V.al0 g0 d_X7_restore_10 ?_
    refine V.callVf g0 (c_X7_record hkn) ky_X7_record ki_X7_record ks2_X7_record lk_X7_117 (by first | exact md_0 | exact md_1 | exact md_2 | exact md_3 | exact md_4 | exact md_5) rfl rfl (Nat.le_of_ble_eq_true rfl) ⟨Nat.zero_le _, Nat.zero_le _⟩ rfl rfl (Nat.le_of_ble_eq_true rfl) d_X7_restore_11 ?_
    refine V.iconst g0 d_X7_restore_14 ?_
    refine V.is1 g0 d_X7_restore_15 ?_
    have LP : ∀ (f i : Nat), i + f = 622 → V E X 0 0 n (md E M m (mixI i sn s) a (hOf (recH H s kn)) sn tx (recK kn) kp ln st se sp wr le f1 f2 f3 f4 f5 sb) 16 [some (.ref m), some (.int (iI (i : Int)))] [] := by
      intro f
      induction f using Nat.strongRecOn with
      | _ f ih =>
      intro i hf
      refine V.il1 g0 d_X7_restore_16 ?_
      refine V.sipush g0 d_X7_restore_17 (by decide) ?_
      refine V.icmpge g0 d_X7_restore_20 (by omega) (fun c_20 => ?_) (fun c_20 => ?_)
      · skip
        refine V.rep (h := sn) md_1 (fun j h0 h1 => mixI_in sn s h0 (by omega)) ?_
        refine V.eqM md_u1 ?_
        refine V.al0 g0 d_X7_restore_41 ?_
        refine V.getf g0 d_X7_restore_42 fl_X7_7 (by first | exact md_0 | exact md_1 | exact md_2 | exact md_3 | exact md_4 | exact md_5) (by rfl) ?_
        refine V.sipush g0 d_X7_restore_45 (by decide) ?_
        refine V.iald g0 d_X7_restore_48 (by first | exact md_0 | exact md_1 | exact md_2 | exact md_3 | exact md_4 | exact md_5) (by omega) (by decide) ?_
        refine V.iret g d_X7_restore_49 (Nat.zero_le _) (Nat.zero_le _) ?_
        have e : a_restore (s, H, kn, sn, kp, tx, ln, st, se) = (sn 618, recA (s, H, kn, sn, kp, tx, ln, st, se) sn) := by rw [a_restore, if_neg c_4]
        rw [e]; exact ⟨rfl, rfl, rfl⟩
      · skip
        refine V.al0 g0 d_X7_restore_23 ?_
        refine V.getf g0 d_X7_restore_24 fl_X7_7 (by first | exact md_0 | exact md_1 | exact md_2 | exact md_3 | exact md_4 | exact md_5) (by rfl) ?_
        refine V.il1 g0 d_X7_restore_27 ?_
        refine V.al0 g0 d_X7_restore_28 ?_
        refine V.getf g0 d_X7_restore_29 fl_X7_19 (by first | exact md_0 | exact md_1 | exact md_2 | exact md_3 | exact md_4 | exact md_5) (by rfl) ?_
        refine V.il1 g0 d_X7_restore_32 ?_
        refine V.iald g0 d_X7_restore_33 (by first | exact md_0 | exact md_1 | exact md_2 | exact md_3 | exact md_4 | exact md_5) (by omega) (by decide) ?_
        refine V.iast g0 d_X7_restore_34 (by first | exact md_0 | exact md_1 | exact md_2 | exact md_3 | exact md_4 | exact md_5) (by omega) (by decide) ?_
        first | refine V.eqM md_u1 ?_ | refine V.eqM md_u2 ?_ | refine V.eqM md_u3 ?_ | refine V.eqM md_u4 ?_ | refine V.eqM md_u5 ?_ | refine V.eqM md_u0 ?_
        rw [mixI_s]
        refine V.inc1 g0 d_X7_restore_35 ?_
        refine V.goto g0 d_X7_restore_38 ?_
        exact ih (f - 1) (by omega) (i + 1) (by omega)
    exact V.eqM (by rw [mixI_0]) (LP 622 0 rfl)
  · skip
    refine V.bipush g0 d_X7_restore_7 (by decide) ?_
    refine V.iret g d_X7_restore_9 (Nat.zero_le _) (Nat.zero_le _) ?_
    have e : a_restore (s, H, kn, sn, kp, tx, ln, st, se) = (-5, (s, H, kn, sn, kp, tx, ln, st, se)) := by rw [a_restore, if_pos c_4]
    rw [e]; exact ⟨rfl, rfl, rfl⟩

theorem d_X7_stopped_0 : Dc cX7_stopped 0 1 1 (.iload_n 1) := ⟨by decide +kernel, rfl⟩
theorem d_X7_stopped_1 : Dj cX7_stopped 1 4 11 (.ifCond .ne) := ⟨10, by decide +kernel, rfl, by decide⟩
theorem d_X7_stopped_4 : Dc cX7_stopped 4 1 5 (.aload_n 0) := ⟨by decide +kernel, rfl⟩
theorem d_X7_stopped_5 : Dc cX7_stopped 5 3 8 (.getfield 25) := ⟨by decide +kernel, rfl⟩
theorem d_X7_stopped_8 : Dj cX7_stopped 8 11 25 .goto := ⟨17, by decide +kernel, rfl, by decide⟩
theorem d_X7_stopped_11 : Dc cX7_stopped 11 1 12 (.iload_n 1) := ⟨by decide +kernel, rfl⟩
theorem d_X7_stopped_12 : Dc cX7_stopped 12 1 13 (.iconst 1) := ⟨by decide +kernel, rfl⟩
theorem d_X7_stopped_13 : Dj cX7_stopped 13 16 23 (.if_icmp .ne) := ⟨10, by decide +kernel, rfl, by decide⟩
theorem d_X7_stopped_16 : Dc cX7_stopped 16 1 17 (.aload_n 0) := ⟨by decide +kernel, rfl⟩
theorem d_X7_stopped_17 : Dc cX7_stopped 17 3 20 (.getfield 29) := ⟨by decide +kernel, rfl⟩
theorem d_X7_stopped_20 : Dj cX7_stopped 20 23 25 .goto := ⟨5, by decide +kernel, rfl, by decide⟩
theorem d_X7_stopped_23 : Dc cX7_stopped 23 2 25 (.bipush (-2)) := ⟨by decide +kernel, rfl⟩
theorem d_X7_stopped_25 : decode cX7_stopped 25 = .ok (.ireturn, 1) := by decide +kernel
set_option maxHeartbeats 4000000 in
set_option maxRecDepth 20000 in
theorem c_X7_stopped {E : Ev} {n : Nat} {M : Mem} {m : Nat} {s a sn tx : Int → Int} {H : Int → Int → Int} {kn kp ln st se sp wr le f1 f2 f3 f4 f5 sb : Int} {w : Int} (h1 : rg w) : MT E yX7_stopped cX7_stopped 2 (some .int) 0 0 0 [.ref m, .int (iI w)] n (md E M m s a (hOf H) sn tx kn kp ln st se sp wr le f1 f2 f3 f4 f5 sb) (PF (some (.int (iI (q_stopped st se w)))) n (md E M m s a (hOf H) sn tx kn kp ln st se sp wr le f1 f2 f3 f4 f5 sb)) := by
  refine MT.of (by decide) rfl (Nat.le_of_ble_eq_true rfl) ?_
  intro X g
  have g0 := g.1
  show V E X 0 0 n (md E M m s a (hOf H) sn tx kn kp ln st se sp wr le f1 f2 f3 f4 f5 sb) 0 [some (.ref m), some (.int (iI w))] []
  refine V.il1 g0 d_X7_stopped_0 ?_
  refine V.ifne g0 d_X7_stopped_1 (by omega) (fun c_1 => ?_) (fun c_1 => ?_)
  · skip
    refine V.il1 g0 d_X7_stopped_11 ?_
    refine V.iconst g0 d_X7_stopped_12 ?_
    refine V.icmpne g0 d_X7_stopped_13 (by omega) (fun c_13 => ?_) (fun c_13 => ?_)
    · skip
      refine V.bipush g0 d_X7_stopped_23 (by decide) ?_
      refine V.iret g d_X7_stopped_25 (Nat.zero_le _) (Nat.zero_le _) ⟨congrArg (fun z => some (Value.int (iI z))) ?_, rfl, rfl⟩
      rw [q_stopped, if_neg c_1, if_neg c_13]
    · skip
      refine V.al0 g0 d_X7_stopped_16 ?_
      refine V.getf g0 d_X7_stopped_17 fl_X7_29 (by first | exact md_0 | exact md_1 | exact md_2 | exact md_3 | exact md_4 | exact md_5) (by rfl) ?_
      refine V.goto g0 d_X7_stopped_20 ?_
      refine V.iret g d_X7_stopped_25 (Nat.zero_le _) (Nat.zero_le _) ⟨congrArg (fun z => some (Value.int (iI z))) ?_, rfl, rfl⟩
      rw [q_stopped, if_neg c_1, if_pos c_13]
  · skip
    refine V.al0 g0 d_X7_stopped_4 ?_
    refine V.getf g0 d_X7_stopped_5 fl_X7_25 (by first | exact md_0 | exact md_1 | exact md_2 | exact md_3 | exact md_4 | exact md_5) (by rfl) ?_
    refine V.goto g0 d_X7_stopped_8 ?_
    refine V.iret g d_X7_stopped_25 (Nat.zero_le _) (Nat.zero_le _) ⟨congrArg (fun z => some (Value.int (iI z))) ?_, rfl, rfl⟩
    rw [q_stopped, if_pos c_1]

theorem d_X7_count_0 : Dc cX7_count 0 1 1 (.iload_n 1) := ⟨by decide +kernel, rfl⟩
theorem d_X7_count_1 : decode cX7_count 1 = .ok (.tableswitch 111 0 11 #[63, 72, 81, 86, 86, 86, 86, 86, 86, 92, 101, 106], 63) := by decide +kernel
theorem d_X7_count_64 : Dc cX7_count 64 1 65 (.aload_n 0) := ⟨by decide +kernel, rfl⟩
theorem d_X7_count_65 : Dc cX7_count 65 3 68 (.getfield 7) := ⟨by decide +kernel, rfl⟩
theorem d_X7_count_68 : Dc cX7_count 68 3 71 (.sipush 618) := ⟨by decide +kernel, rfl⟩
theorem d_X7_count_71 : Dc cX7_count 71 1 72 .iaload := ⟨by decide +kernel, rfl⟩
theorem d_X7_count_72 : decode cX7_count 72 = .ok (.ireturn, 1) := by decide +kernel
theorem d_X7_count_73 : Dc cX7_count 73 1 74 (.aload_n 0) := ⟨by decide +kernel, rfl⟩
theorem d_X7_count_74 : Dc cX7_count 74 3 77 (.getfield 7) := ⟨by decide +kernel, rfl⟩
theorem d_X7_count_77 : Dc cX7_count 77 3 80 (.sipush 619) := ⟨by decide +kernel, rfl⟩
theorem d_X7_count_80 : Dc cX7_count 80 1 81 .iaload := ⟨by decide +kernel, rfl⟩
theorem d_X7_count_81 : decode cX7_count 81 = .ok (.ireturn, 1) := by decide +kernel
theorem d_X7_count_82 : Dc cX7_count 82 1 83 (.aload_n 0) := ⟨by decide +kernel, rfl⟩
theorem d_X7_count_83 : Dc cX7_count 83 3 86 (.invokevirtual 130) := ⟨by decide +kernel, rfl⟩
theorem d_X7_count_86 : decode cX7_count 86 = .ok (.ireturn, 1) := by decide +kernel
theorem d_X7_count_87 : Dc cX7_count 87 1 88 (.aload_n 0) := ⟨by decide +kernel, rfl⟩
theorem d_X7_count_88 : Dc cX7_count 88 1 89 (.iload_n 1) := ⟨by decide +kernel, rfl⟩
theorem d_X7_count_89 : Dc cX7_count 89 3 92 (.invokevirtual 228) := ⟨by decide +kernel, rfl⟩
theorem d_X7_count_92 : decode cX7_count 92 = .ok (.ireturn, 1) := by decide +kernel
theorem d_X7_count_93 : Dc cX7_count 93 1 94 (.aload_n 0) := ⟨by decide +kernel, rfl⟩
theorem d_X7_count_94 : Dc cX7_count 94 3 97 (.getfield 7) := ⟨by decide +kernel, rfl⟩
theorem d_X7_count_97 : Dc cX7_count 97 3 100 (.sipush 621) := ⟨by decide +kernel, rfl⟩
theorem d_X7_count_100 : Dc cX7_count 100 1 101 .iaload := ⟨by decide +kernel, rfl⟩
theorem d_X7_count_101 : decode cX7_count 101 = .ok (.ireturn, 1) := by decide +kernel
theorem d_X7_count_102 : Dc cX7_count 102 1 103 (.aload_n 0) := ⟨by decide +kernel, rfl⟩
theorem d_X7_count_103 : Dc cX7_count 103 3 106 (.getfield 47) := ⟨by decide +kernel, rfl⟩
theorem d_X7_count_106 : decode cX7_count 106 = .ok (.ireturn, 1) := by decide +kernel
theorem d_X7_count_107 : Dc cX7_count 107 1 108 (.aload_n 0) := ⟨by decide +kernel, rfl⟩
theorem d_X7_count_108 : Dc cX7_count 108 3 111 (.getfield 147) := ⟨by decide +kernel, rfl⟩
theorem d_X7_count_111 : decode cX7_count 111 = .ok (.ireturn, 1) := by decide +kernel
theorem d_X7_count_112 : Dc cX7_count 112 2 114 (.bipush (-2)) := ⟨by decide +kernel, rfl⟩
theorem d_X7_count_114 : decode cX7_count 114 = .ok (.ireturn, 1) := by decide +kernel
set_option maxHeartbeats 4000000 in
set_option maxRecDepth 20000 in
theorem c_X7_count {E : Ev} {n : Nat} {M : Mem} {m : Nat} {s a sn tx : Int → Int} {H : Int → Int → Int} {kn kp ln st se sp wr le f1 f2 f3 f4 f5 sb : Int} (hO : Ok s) {w : Int} (h1 : rg w) : MT E yX7_count cX7_count 2 (some .int) 7 0 0 [.ref m, .int (iI w)] n (md E M m s a (hOf H) sn tx kn kp ln st se sp wr le f1 f2 f3 f4 f5 sb) (PF (some (.int (iI (q_count s kn ln w)))) n (md E M m s a (hOf H) sn tx kn kp ln st se sp wr le f1 f2 f3 f4 f5 sb)) := by
  refine MT.of (by decide) rfl (Nat.le_of_ble_eq_true rfl) ?_
  intro X g
  have g0 := g.1
  show V E X 0 0 n (md E M m s a (hOf H) sn tx kn kp ln st se sp wr le f1 f2 f3 f4 f5 sb) 0 [some (.ref m), some (.int (iI w))] []
  refine V.il1 g0 d_X7_count_0 ?_
  rcases (show (w < 0 ∨ 11 < w) ∨ w = 0 ∨ w = 1 ∨ w = 2 ∨ w = 3 ∨ w = 4 ∨ w = 5 ∨ w = 6 ∨ w = 7 ∨ w = 8 ∨ w = 9 ∨ w = 10 ∨ w = 11 by omega) with w_1 | w_1 | w_1 | w_1 | w_1 | w_1 | w_1 | w_1 | w_1 | w_1 | w_1 | w_1 | w_1
  · refine V.tout (q := 0) (t := 112) g0 d_X7_count_1 (by omega) w_1 (by decide) ?_
    refine V.bipush g0 d_X7_count_112 (by decide) ?_
    refine V.iret g d_X7_count_114 (Nat.zero_le _) (Nat.zero_le _) ⟨congrArg (fun z => some (Value.int (iI z))) ?_, rfl, rfl⟩
    rw [q_count, if_neg (by omega), if_neg (by omega), if_neg (by omega), if_neg (by omega), if_neg (by omega), if_neg (by omega), if_neg (by omega)]
  · refine V.tin (q := 0) (off := 63) (t := 64) g0 d_X7_count_1 (by omega) (by omega) (by omega) (by rw [w_1]; rfl) (by decide) ?_
    refine V.al0 g0 d_X7_count_64 ?_
    refine V.getf g0 d_X7_count_65 fl_X7_7 (by first | exact md_0 | exact md_1 | exact md_2 | exact md_3 | exact md_4 | exact md_5) (by rfl) ?_
    refine V.sipush g0 d_X7_count_68 (by decide) ?_
    refine V.iald g0 d_X7_count_71 (by first | exact md_0 | exact md_1 | exact md_2 | exact md_3 | exact md_4 | exact md_5) (by omega) (by decide) ?_
    refine V.iret g d_X7_count_72 (Nat.zero_le _) (Nat.zero_le _) ⟨congrArg (fun z => some (Value.int (iI z))) ?_, rfl, rfl⟩
    rw [w_1]; rfl
  · refine V.tin (q := 0) (off := 72) (t := 73) g0 d_X7_count_1 (by omega) (by omega) (by omega) (by rw [w_1]; rfl) (by decide) ?_
    refine V.al0 g0 d_X7_count_73 ?_
    refine V.getf g0 d_X7_count_74 fl_X7_7 (by first | exact md_0 | exact md_1 | exact md_2 | exact md_3 | exact md_4 | exact md_5) (by rfl) ?_
    refine V.sipush g0 d_X7_count_77 (by decide) ?_
    refine V.iald g0 d_X7_count_80 (by first | exact md_0 | exact md_1 | exact md_2 | exact md_3 | exact md_4 | exact md_5) (by omega) (by decide) ?_
    refine V.iret g d_X7_count_81 (Nat.zero_le _) (Nat.zero_le _) ⟨congrArg (fun z => some (Value.int (iI z))) ?_, rfl, rfl⟩
    rw [w_1]; rfl
  · refine V.tin (q := 0) (off := 81) (t := 82) g0 d_X7_count_1 (by omega) (by omega) (by omega) (by rw [w_1]; rfl) (by decide) ?_
    refine V.al0 g0 d_X7_count_82 ?_
    refine V.callVp g0 (c_X7_closed md_MS hO.clo) ky_X7_closed ki_X7_closed ks2_X7_closed lk_X7_130 (by first | exact md_0 | exact md_1 | exact md_2 | exact md_3 | exact md_4 | exact md_5) rfl rfl (Nat.le_of_ble_eq_true rfl) ⟨Nat.zero_le _, Nat.zero_le _⟩ rfl rfl (Nat.le_of_ble_eq_true rfl) d_X7_count_83 ?_
    refine V.iret g d_X7_count_86 (Nat.zero_le _) (Nat.zero_le _) ⟨congrArg (fun z => some (Value.int (iI z))) ?_, rfl, rfl⟩
    rw [w_1]; rfl
  · refine V.tin (q := 0) (off := 86) (t := 87) g0 d_X7_count_1 (by omega) (by omega) (by omega) (by rw [w_1]; rfl) (by decide) ?_
    refine V.al0 g0 d_X7_count_87 ?_
    refine V.il1 g0 d_X7_count_88 ?_
    refine V.callVp g0 (c_X7_sumOf md_MS hO h1) ky_X7_sumOf ki_X7_sumOf ks2_X7_sumOf lk_X7_228 (by first | exact md_0 | exact md_1 | exact md_2 | exact md_3 | exact md_4 | exact md_5) rfl rfl (Nat.le_of_ble_eq_true rfl) ⟨Nat.zero_le _, Nat.zero_le _⟩ rfl rfl (Nat.le_of_ble_eq_true rfl) d_X7_count_89 ?_
    refine V.iret g d_X7_count_92 (Nat.zero_le _) (Nat.zero_le _) ⟨congrArg (fun z => some (Value.int (iI z))) ?_, rfl, rfl⟩
    rw [q_count, if_neg (by omega), if_neg (by omega), if_neg (by omega), if_pos (by omega)]
  · refine V.tin (q := 0) (off := 86) (t := 87) g0 d_X7_count_1 (by omega) (by omega) (by omega) (by rw [w_1]; rfl) (by decide) ?_
    refine V.al0 g0 d_X7_count_87 ?_
    refine V.il1 g0 d_X7_count_88 ?_
    refine V.callVp g0 (c_X7_sumOf md_MS hO h1) ky_X7_sumOf ki_X7_sumOf ks2_X7_sumOf lk_X7_228 (by first | exact md_0 | exact md_1 | exact md_2 | exact md_3 | exact md_4 | exact md_5) rfl rfl (Nat.le_of_ble_eq_true rfl) ⟨Nat.zero_le _, Nat.zero_le _⟩ rfl rfl (Nat.le_of_ble_eq_true rfl) d_X7_count_89 ?_
    refine V.iret g d_X7_count_92 (Nat.zero_le _) (Nat.zero_le _) ⟨congrArg (fun z => some (Value.int (iI z))) ?_, rfl, rfl⟩
    rw [q_count, if_neg (by omega), if_neg (by omega), if_neg (by omega), if_pos (by omega)]
  · refine V.tin (q := 0) (off := 86) (t := 87) g0 d_X7_count_1 (by omega) (by omega) (by omega) (by rw [w_1]; rfl) (by decide) ?_
    refine V.al0 g0 d_X7_count_87 ?_
    refine V.il1 g0 d_X7_count_88 ?_
    refine V.callVp g0 (c_X7_sumOf md_MS hO h1) ky_X7_sumOf ki_X7_sumOf ks2_X7_sumOf lk_X7_228 (by first | exact md_0 | exact md_1 | exact md_2 | exact md_3 | exact md_4 | exact md_5) rfl rfl (Nat.le_of_ble_eq_true rfl) ⟨Nat.zero_le _, Nat.zero_le _⟩ rfl rfl (Nat.le_of_ble_eq_true rfl) d_X7_count_89 ?_
    refine V.iret g d_X7_count_92 (Nat.zero_le _) (Nat.zero_le _) ⟨congrArg (fun z => some (Value.int (iI z))) ?_, rfl, rfl⟩
    rw [q_count, if_neg (by omega), if_neg (by omega), if_neg (by omega), if_pos (by omega)]
  · refine V.tin (q := 0) (off := 86) (t := 87) g0 d_X7_count_1 (by omega) (by omega) (by omega) (by rw [w_1]; rfl) (by decide) ?_
    refine V.al0 g0 d_X7_count_87 ?_
    refine V.il1 g0 d_X7_count_88 ?_
    refine V.callVp g0 (c_X7_sumOf md_MS hO h1) ky_X7_sumOf ki_X7_sumOf ks2_X7_sumOf lk_X7_228 (by first | exact md_0 | exact md_1 | exact md_2 | exact md_3 | exact md_4 | exact md_5) rfl rfl (Nat.le_of_ble_eq_true rfl) ⟨Nat.zero_le _, Nat.zero_le _⟩ rfl rfl (Nat.le_of_ble_eq_true rfl) d_X7_count_89 ?_
    refine V.iret g d_X7_count_92 (Nat.zero_le _) (Nat.zero_le _) ⟨congrArg (fun z => some (Value.int (iI z))) ?_, rfl, rfl⟩
    rw [q_count, if_neg (by omega), if_neg (by omega), if_neg (by omega), if_pos (by omega)]
  · refine V.tin (q := 0) (off := 86) (t := 87) g0 d_X7_count_1 (by omega) (by omega) (by omega) (by rw [w_1]; rfl) (by decide) ?_
    refine V.al0 g0 d_X7_count_87 ?_
    refine V.il1 g0 d_X7_count_88 ?_
    refine V.callVp g0 (c_X7_sumOf md_MS hO h1) ky_X7_sumOf ki_X7_sumOf ks2_X7_sumOf lk_X7_228 (by first | exact md_0 | exact md_1 | exact md_2 | exact md_3 | exact md_4 | exact md_5) rfl rfl (Nat.le_of_ble_eq_true rfl) ⟨Nat.zero_le _, Nat.zero_le _⟩ rfl rfl (Nat.le_of_ble_eq_true rfl) d_X7_count_89 ?_
    refine V.iret g d_X7_count_92 (Nat.zero_le _) (Nat.zero_le _) ⟨congrArg (fun z => some (Value.int (iI z))) ?_, rfl, rfl⟩
    rw [q_count, if_neg (by omega), if_neg (by omega), if_neg (by omega), if_pos (by omega)]
  · refine V.tin (q := 0) (off := 86) (t := 87) g0 d_X7_count_1 (by omega) (by omega) (by omega) (by rw [w_1]; rfl) (by decide) ?_
    refine V.al0 g0 d_X7_count_87 ?_
    refine V.il1 g0 d_X7_count_88 ?_
    refine V.callVp g0 (c_X7_sumOf md_MS hO h1) ky_X7_sumOf ki_X7_sumOf ks2_X7_sumOf lk_X7_228 (by first | exact md_0 | exact md_1 | exact md_2 | exact md_3 | exact md_4 | exact md_5) rfl rfl (Nat.le_of_ble_eq_true rfl) ⟨Nat.zero_le _, Nat.zero_le _⟩ rfl rfl (Nat.le_of_ble_eq_true rfl) d_X7_count_89 ?_
    refine V.iret g d_X7_count_92 (Nat.zero_le _) (Nat.zero_le _) ⟨congrArg (fun z => some (Value.int (iI z))) ?_, rfl, rfl⟩
    rw [q_count, if_neg (by omega), if_neg (by omega), if_neg (by omega), if_pos (by omega)]
  · refine V.tin (q := 0) (off := 92) (t := 93) g0 d_X7_count_1 (by omega) (by omega) (by omega) (by rw [w_1]; rfl) (by decide) ?_
    refine V.al0 g0 d_X7_count_93 ?_
    refine V.getf g0 d_X7_count_94 fl_X7_7 (by first | exact md_0 | exact md_1 | exact md_2 | exact md_3 | exact md_4 | exact md_5) (by rfl) ?_
    refine V.sipush g0 d_X7_count_97 (by decide) ?_
    refine V.iald g0 d_X7_count_100 (by first | exact md_0 | exact md_1 | exact md_2 | exact md_3 | exact md_4 | exact md_5) (by omega) (by decide) ?_
    refine V.iret g d_X7_count_101 (Nat.zero_le _) (Nat.zero_le _) ⟨congrArg (fun z => some (Value.int (iI z))) ?_, rfl, rfl⟩
    rw [w_1]; rfl
  · refine V.tin (q := 0) (off := 101) (t := 102) g0 d_X7_count_1 (by omega) (by omega) (by omega) (by rw [w_1]; rfl) (by decide) ?_
    refine V.al0 g0 d_X7_count_102 ?_
    refine V.getf g0 d_X7_count_103 fl_X7_47 (by first | exact md_0 | exact md_1 | exact md_2 | exact md_3 | exact md_4 | exact md_5) (by rfl) ?_
    refine V.iret g d_X7_count_106 (Nat.zero_le _) (Nat.zero_le _) ⟨congrArg (fun z => some (Value.int (iI z))) ?_, rfl, rfl⟩
    rw [w_1]; rfl
  · refine V.tin (q := 0) (off := 106) (t := 107) g0 d_X7_count_1 (by omega) (by omega) (by omega) (by rw [w_1]; rfl) (by decide) ?_
    refine V.al0 g0 d_X7_count_107 ?_
    refine V.getf g0 d_X7_count_108 fl_X7_147 (by first | exact md_0 | exact md_1 | exact md_2 | exact md_3 | exact md_4 | exact md_5) (by rfl) ?_
    refine V.iret g d_X7_count_111 (Nat.zero_le _) (Nat.zero_le _) ⟨congrArg (fun z => some (Value.int (iI z))) ?_, rfl, rfl⟩
    rw [w_1]; rfl
