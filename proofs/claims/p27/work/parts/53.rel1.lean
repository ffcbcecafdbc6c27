theorem MT.mono {E : Ev} {y : MethodName} {cc : ByteArray} {nL : Nat} {ret : Option FieldType} {d mc ms : Nat} {as : List Value} {n : Nat} {M : Mem} {Po Po' : Option Value → Nat → Mem → Prop} (h : MT E y cc nL ret d mc ms as n M Po) (hp : ∀ v n' M', Po v n' M' → Po' v n' M') : MT E y cc nL ret d mc ms as n M Po' := by
  obtain ⟨l, D, cy, b⟩ := E
  unfold MT Met at h ⊢
  refine MetFree.mono h (fun _ _ q => q) (fun _ _ _ _ _ q => q) ?_
  rintro a s o s' _ ⟨⟨⟨v, n1, M1, e, q, r⟩, f⟩, L⟩
  exact ⟨⟨⟨v, n1, M1, e, hp _ _ _ q, r⟩, f⟩, L⟩
/-! what a holder tells, when numbers change -/
section
variable {s t : Int → Int} {p : Int}
abbrev sameB (s t : Int → Int) (p : Int) : Prop := ∀ j : Int, 0 ≤ j → j < 103 → j ≠ 4 → j ≠ 5 → (j < 25 ∨ 43 ≤ j) → t (103 * p + j) = s (103 * p + j)
theorem bD_g (hw : sameB s t p) {i : Int} (h0 : 0 ≤ i) (h1 : i ≤ 16) : bD t p i = bD s p i := by
  unfold bD stD
  split
  · exact hw 7 (by omega) (by omega) (by omega) (by omega) (by omega)
  · rw [hw (9 + (i - 1)) (by omega) (by omega) (by omega) (by omega) (by omega)]
theorem bP_g (hw : sameB s t p) {i : Int} (h0 : 0 ≤ i) (h1 : i ≤ 16) : bP t p i = bP s p i := by
  unfold bP stC
  split
  · exact hw 6 (by omega) (by omega) (by omega) (by omega) (by omega)
  · rw [hw (9 + (i - 1)) (by omega) (by omega) (by omega) (by omega) (by omega)]
theorem HolR.gen {hm os nb jk bk os' nb' : Int} {jd jp bd bp bc : Int → Int} (h : HolR s p hm os nb jd jp jk bd bp bk bc) (hk : OkP s p) (hw : sameB s t p) (e4 : os' = t (103 * p + 4)) (e5 : nb' = t (103 * p + 5)) : HolR t p hm os' nb' jd jp jk bd bp bk bc := by
  have h1 := hk.crs
  have h2 := hk.stm
  obtain ⟨⟨a1, a2, a3, a4, a5⟩, b, c, d⟩ := h
  refine ⟨⟨a1.trans (hw 0 (by omega) (by omega) (by omega) (by omega) (by omega)).symm, e4, e5, a4.trans (hw 3 (by omega) (by omega) (by omega) (by omega) (by omega)).symm, a5.trans (hw 8 (by omega) (by omega) (by omega) (by omega) (by omega)).symm⟩, fun i h0 hi => ?_, fun i h0 hi => ?_, fun r h0 hr => ?_⟩
  · have q := b i h0 hi
    refine ⟨q.1.trans ?_, q.2.trans ?_⟩
    · unfold jD
      split
      · exact (hw 1 (by omega) (by omega) (by omega) (by omega) (by omega)).symm
      · rw [hw (43 + (i - 1)) (by omega) (by omega) (by omega) (by omega) (by omega)]
    · unfold jP
      split
      · exact (hw 0 (by omega) (by omega) (by omega) (by omega) (by omega)).symm
      · rw [hw (43 + (i - 1)) (by omega) (by omega) (by omega) (by omega) (by omega)]
  · rw [bD_g hw h0 (by omega), bP_g hw h0 (by omega)]; exact c i h0 hi
  · rw [d r h0 hr]
    unfold stC
    rw [hw (9 + r) (by omega) (by omega) (by omega) (by omega) (by omega)]
theorem HolR.stm {hm os nb jk bk : Int} {jd jp bd bp bc : Int → Int} (h : HolR s p hm os nb jd jp jk bd bp bk bc) (hk : OkP s p) (h16 : s (103 * p + 8) < 16) {c e : Int} (hc : 0 ≤ c ∧ c ≤ 5) (he : e = 0 ∨ e = 1) : HolR (stampS s p c e) p hm os nb jd jp jk (upI bd (bk + 1) (s 618)) (upI bp (bk + 1) (if e = 1 then c else -5)) (bk + 1) (upI bc bk c) := by
  have h1 := hk.crs
  have h2 := hk.stm
  have hd := hk.bgo
  have v8 := stampS_8 (s := s) (p := p) (c := c) (e := e) h2.1
  have vN := stampS_v (s := s) (p := p) (c := c) (e := e) h2.1
  have nn : ∀ j : Int, j ≠ 8 → j ≠ 9 + s (103 * p + 8) → stampS s p c e (103 * p + j) = s (103 * p + j) := fun j g1 g2 => stampS_n (by omega) (by omega)
  obtain ⟨⟨a1, a2, a3, a4, a5⟩, b, cc, d⟩ := h
  refine ⟨⟨a1.trans (nn 0 (by omega) (by omega)).symm, a2.trans (nn 4 (by omega) (by omega)).symm, a3.trans (nn 5 (by omega) (by omega)).symm, a4.trans (nn 3 (by omega) (by omega)).symm, by rw [v8, a5]⟩, fun i h0 hi => ?_, fun i h0 hi => ?_, fun r h0 hr => ?_⟩
  · have q := b i h0 hi
    refine ⟨q.1.trans ?_, q.2.trans ?_⟩
    · unfold jD
      split
      · exact (nn 1 (by omega) (by omega)).symm
      · rw [nn (43 + (i - 1)) (by omega) (by omega)]
    · unfold jP
      split
      · exact (nn 0 (by omega) (by omega)).symm
      · rw [nn (43 + (i - 1)) (by omega) (by omega)]
  · by_cases hi2 : i = bk + 1
    · subst hi2
      rw [upI_s, upI_s]
      have h9 : ¬ bk + 1 = 0 := by omega
      unfold bD bP stC stD
      rw [if_neg h9, if_neg h9, show bk + 1 - 1 = s (103 * p + 8) by omega, vN]
      refine ⟨by omega, ?_⟩
      rcases he with rfl | rfl
      · rw [if_neg (by decide), if_neg (by omega)]
      · rw [if_pos rfl, if_pos (by omega)]; omega
    · rw [upI_n _ _ hi2, upI_n _ _ hi2]
      have q := cc i h0 (by omega)
      refine ⟨q.1.trans ?_, q.2.trans ?_⟩
      · unfold bD stD
        split
        · exact (nn 7 (by omega) (by omega)).symm
        · rw [nn (9 + (i - 1)) (by omega) (by omega)]
      · unfold bP stC
        split
        · exact (nn 6 (by omega) (by omega)).symm
        · rw [nn (9 + (i - 1)) (by omega) (by omega)]
  · by_cases hr2 : r = bk
    · subst hr2
      rw [upI_s]
      unfold stC
      rw [a5, vN]
      rcases he with rfl | rfl <;> omega
    · rw [upI_n _ _ hr2, d r h0 (by omega)]
      unfold stC
      rw [nn (9 + r) (by omega) (by omega)]
theorem HolR.wnt {hm os nb jk bk : Int} {jd jp bd bp bc : Int → Int} (h : HolR s p hm os nb jd jp jk bd bp bk bc) (hk : OkP s p) {c : Int} (hc : 0 ≤ c ∧ c ≤ 5) : HolR (upI (upI (upI s (103 * p + (43 + s (103 * p + 3))) (6 * s 618 + c)) (103 * p + 3) (s (103 * p + 3) + 1)) (103 * p + 2) c) p hm os nb (upI jd (jk + 1) (s 618)) (upI jp (jk + 1) c) (jk + 1) bd bp bk bc := by
  have h1 := hk.crs
  have h2 := hk.stm
  have hd := hk.bgo
  have nn : ∀ j : Int, j ≠ 2 → j ≠ 3 → j ≠ 43 + s (103 * p + 3) → (upI (upI (upI s (103 * p + (43 + s (103 * p + 3))) (6 * s 618 + c)) (103 * p + 3) (s (103 * p + 3) + 1)) (103 * p + 2) c) (103 * p + j) = s (103 * p + j) := fun j g1 g2 g3 => by rw [upI_n _ _ (by omega), upI_n _ _ (by omega), upI_n _ _ (by omega)]
  have v3 : (upI (upI (upI s (103 * p + (43 + s (103 * p + 3))) (6 * s 618 + c)) (103 * p + 3) (s (103 * p + 3) + 1)) (103 * p + 2) c) (103 * p + 3) = s (103 * p + 3) + 1 := by rw [upI_n _ _ (by omega), upI_s]
  have vN : (upI (upI (upI s (103 * p + (43 + s (103 * p + 3))) (6 * s 618 + c)) (103 * p + 3) (s (103 * p + 3) + 1)) (103 * p + 2) c) (103 * p + (43 + s (103 * p + 3))) = 6 * s 618 + c := by rw [upI_n _ _ (by omega), upI_n _ _ (by omega), upI_s]
  generalize (upI (upI (upI s (103 * p + (43 + s (103 * p + 3))) (6 * s 618 + c)) (103 * p + 3) (s (103 * p + 3) + 1)) (103 * p + 2) c) = t at nn v3 vN ⊢
  obtain ⟨⟨a1, a2, a3, a4, a5⟩, b, cc, d⟩ := h
  refine ⟨⟨a1.trans (nn 0 (by omega) (by omega) (by omega)).symm, a2.trans (nn 4 (by omega) (by omega) (by omega)).symm, a3.trans (nn 5 (by omega) (by omega) (by omega)).symm, by rw [v3, a4], a5.trans (nn 8 (by omega) (by omega) (by omega)).symm⟩, fun i h0 hi => ?_, fun i h0 hi => ?_, fun r h0 hr => ?_⟩
  · by_cases hi2 : i = jk + 1
    · subst hi2
      rw [upI_s, upI_s]
      unfold jD jP
      rw [if_neg (by omega), if_neg (by omega), show jk + 1 - 1 = s (103 * p + 3) by omega, vN]
      omega
    · rw [upI_n _ _ hi2, upI_n _ _ hi2]
      have q := b i h0 (by omega)
      refine ⟨q.1.trans ?_, q.2.trans ?_⟩
      · unfold jD
        split
        · exact (nn 1 (by omega) (by omega) (by omega)).symm
        · rw [nn (43 + (i - 1)) (by omega) (by omega) (by omega)]
      · unfold jP
        split
        · exact (nn 0 (by omega) (by omega) (by omega)).symm
        · rw [nn (43 + (i - 1)) (by omega) (by omega) (by omega)]
  · have q := cc i h0 hi
    refine ⟨q.1.trans ?_, q.2.trans ?_⟩
    · unfold bD stD
      split
      · exact (nn 7 (by omega) (by omega) (by omega)).symm
      · rw [nn (9 + (i - 1)) (by omega) (by omega) (by omega)]
    · unfold bP stC
      split
      · exact (nn 6 (by omega) (by omega) (by omega)).symm
      · rw [nn (9 + (i - 1)) (by omega) (by omega) (by omega)]
  · rw [d r h0 hr]
    unfold stC
    rw [nn (9 + r) (by omega) (by omega) (by omega)]
/-! days that are told depend on the steps alone -/
theorem lead_cg {D D' : Int → Int} {day : Int} : ∀ (f : Nat) {i : Int}, (∀ j, i < j → j ≤ i + f → D j = D' j) → lead D day f i = lead D' day f i
  | 0, _, _ => rfl
  | f + 1, i, h => by
    unfold lead
    rw [h (i + 1) (by omega) (by omega), lead_cg f (i := i + 1) (fun j h1 h2 => h j (by omega) (by omega))]
theorem daysOn_cg {D D' P P' : Int → Int} {K c a : Int} {len : Nat} (hK : 0 ≤ K) (h : ∀ i, 0 ≤ i → i ≤ K → D i = D' i ∧ P i = P' i) : daysOn D P K c a len = daysOn D' P' K c a len := by
  refine sumI_c fun i hi => bI_e ?_
  have e : trAt D P K (a + i) = trAt D' P' K (a + i) := by
    unfold trAt
    rw [(h 0 (by omega) hK).1, lead_cg (D := D) (D' := D') K.toNat (i := 0) (fun j h1 h2 => (h j (by omega) (by omega)).1)]
    have hb := lead_b D' (a + i) K.toNat 0
    rw [(h _ hb.1 (by omega)).2]
  rw [e]
theorem told_g (hk : OkP s p) (hw : sameB s t p) (c a u day : Int) : toldDays t p c a u day = toldDays s p c a u day := by
  have h2 := hk.stm
  unfold toldDays
  rw [hw 8 (by omega) (by omega) (by omega) (by omega) (by omega)]
  exact daysOn_cg h2.1 (fun i h0 h1 => ⟨bD_g hw h0 (by omega), bP_g hw h0 (by omega)⟩)
end
/-! A STATE BLOCK TELLS a state's numbers; visas lie from w on, below n -/
def vwb (w n : Nat) (C : Nat → HC) : Prop := ∀ i, i < 6 → ∀ k u, hcv (C i) k = some u → w ≤ u ∧ u < n
def SR (E : Ev) (M : Mem) (w n t : Nat) (s : Int → Int) : Prop := ∃ C, StM E M t (s 618) (s 619) (s 621) (clOf (s 620).toNat) C ∧ StR M s (s 618) (s 619) (s 621) C ∧ vwb w n C ∧ Ok s
def RS (E : Ev) (M : Mem) (w n t : Nat) (g : Int × (Int → Int)) : Option Value → Nat → Mem → Prop := fun v n' M' => v = some (.int (iI g.1)) ∧ n ≤ n' ∧ SR E M' w n' t g.2 ∧ ∀ q, (q < t ∨ t + 62 ≤ q) → q < n → M' q = M q
theorem StR.fr {M M' : Mem} {s : Int → Int} {dy iss fg : Int} {C : Nat → HC} {w n : Nat} (h : StR M s dy iss fg C) (hO : Ok s) (hv : vwb w n C) (hf : ∀ q, w ≤ q → q < n → M' q = M q) : StR M' s dy iss fg C := ⟨h.1, h.2.1, fun i hi => ⟨(h.2.2 i hi).1, VisR.fr (h.2.2 i hi).2 (fun k u hu => by
  have hm := hO.many
  have := hv i (by omega) k u hu
  exact hf u this.1 this.2)⟩⟩
theorem SR.fr {E : Ev} {M M' : Mem} {w n n' t : Nat} {s : Int → Int} (h : SR E M w n t s) (hn : n ≤ n') (hf : ∀ q, (t ≤ q ∧ q < t + 62) ∨ (w ≤ q ∧ q < n) → M' q = M q) : SR E M' w n' t s := by
  obtain ⟨C, h1, h2, h3, h4⟩ := h
  exact ⟨C, Bk.fr h1 (fun q a b => hf q (Or.inl ⟨a, b⟩)), h2.fr h4 h3 (fun q a b => hf q (Or.inr ⟨a, b⟩)), fun i hi k u hu => ⟨(h3 i hi k u hu).1, by have := (h3 i hi k u hu).2; omega⟩, h4⟩
theorem SR.ok {E : Ev} {M : Mem} {w n t : Nat} {s : Int → Int} (h : SR E M w n t s) : Ok s := h.choose_spec.2.2.2
theorem vwb.up {w n : Nat} {C : Nat → HC} {p : Nat} {c : HC} (h : vwb w n C) (hc : ∀ k u, hcv c k = some u → w ≤ u ∧ u < n) : vwb w n (upC C p c) := fun i hi k u hu => by
  by_cases q : i = p
  · subst q; rw [upC_s] at hu; exact hc k u hu
  · rw [upC_n q] at hu; exact h i hi k u hu
/-- one holder changes -/
theorem StR.one {M M' : Mem} {s s' : Int → Int} {dy iss fg : Int} {C : Nat → HC} {c' : HC} {p : Nat} {w n : Nat} (h : StR M s dy iss fg C) (hO : Ok s) (hO' : Ok s') (hv : vwb w n C) (hp : (p : Int) < s' 619) (hw : ∀ i : Nat, (i : Int) < s' 619 → i ≠ p → (i : Int) < s 619 ∧ sameP s s' i) (hM : ∀ q, w ≤ q → q < n → M' q = M q) (h1 : HcR s' p c' ∧ VisR M' s' p (hcv c')) : StR M' s' (s' 618) (s' 619) (s' 621) (upC C p c') := by
  have hm := hO.many
  have hm' := hO'.many
  refine ⟨⟨rfl, rfl, rfl⟩, fun i hi => ?_, fun i hi => ?_⟩
  · by_cases q : i = p
    · subst q
      rw [upC_s]
      have hk := hO'.at (p := (i : Int)) (by omega) hp
      have e3 : hcj c' = s' (103 * (i : Int) + 3) := h1.1.1.2.2.2.1
      have e8 : hcb c' = s' (103 * (i : Int) + 8) := h1.1.1.2.2.2.2
      have b3 := hk.crs
      have b8 := hk.stm
      omega
    · rw [upC_n q]; exact h.2.1 i hi
  · by_cases q : i = p
    · subst q
      rw [upC_s]; exact h1
    · rw [upC_n q]
      have hs := hw i hi q
      have h2 := h.2.2 i hs.1
      have hk := hO.at (p := (i : Int)) (by omega) hs.1
      refine ⟨HolR.fr h2.1 hk hs.2, VisR.frs (VisR.fr h2.2 (fun k u hu => ?_)) hs.2⟩
      have := hv i (by omega) k u hu
      exact hM u this.1 this.2
theorem SR.mk {E : Ev} {M M1 : Mem} {w n t : Nat} {s' : Int → Int} {dy iss fg : Int} {cl : Int64} {C' : Nat → HC} (hM : M = stU E M1 t dy iss fg cl C') (e1 : dy = s' 618) (e2 : iss = s' 619) (e3 : fg = s' 621) (e4 : cl = clOf (s' 620).toNat) (hR : StR M s' (s' 618) (s' 619) (s' 621) C') (hv : vwb w n C') (hO : Ok s') : SR E M w n t s' := ⟨C', by rw [hM, e1, e2, e3, e4]; exact st_M, hR, hv, hO⟩
