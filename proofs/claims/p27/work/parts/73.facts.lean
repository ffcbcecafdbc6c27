/-! WHAT THE LAW ASKS, of a state's numbers -/
section
variable {s : Int → Int} {k c e : Int}
/-! why a holder cannot cross -/
theorem hind0 (P1 P2 P3 P4 P5 P6 : Prop) [Decidable P1] [Decidable P2] [Decidable P3] [Decidable P4] [Decidable P5] [Decidable P6] (h : P4 → ¬ P3) (R : Int) (hR : R = if P1 then 1 else if ¬ P2 then 2 else if P3 then 3 else if ¬ P4 then 4 else if P5 then 5 else if P6 then 6 else 0) :
    (R = 1 ↔ P1) ∧ (R = 2 ↔ ¬ P1 ∧ ¬ P2) ∧ ((R = 0 ∨ 4 < R) ↔ ¬ P1 ∧ P2 ∧ P4) ∧ (R = 3 → P3) ∧ (R = 4 → ¬ P4) ∧ (R = 5 → P5) ∧ (R = 3 → ¬ P4) ∧ (R = 0 → ¬ P5) := by
  subst hR
  by_cases h1 : P1 <;> by_cases h2 : P2 <;> by_cases h3 : P3 <;> by_cases h4 : P4 <;> by_cases h5 : P5 <;> by_cases h6 : P6 <;> simp_all
theorem mayBe_3 (day : Int) (h : mayBe s k c day) : ¬ (s (103 * k + 0) ≠ c ∧ ¬ validOn s k c day) := fun q => h.elim (fun z => q.1 z) (fun z => q.2 z.1)
theorem hind (s : Int → Int) (k c m : Int) : (hindr s k c m = 1 ↔ s (103 * k + 2) = c) ∧ (hindr s k c m = 2 ↔ ¬ s (103 * k + 2) = c ∧ ¬ isOpen s (s (103 * k + 2)) c) ∧ ((hindr s k c m = 0 ∨ 4 < hindr s k c m) ↔ ¬ s (103 * k + 2) = c ∧ isOpen s (s (103 * k + 2)) c ∧ mayBe s k c (s 618)) ∧ (hindr s k c m = 3 → s (103 * k + 0) ≠ c ∧ ¬ validOn s k c (s 618)) ∧ (hindr s k c m = 4 → ¬ mayBe s k c (s 618)) ∧ (hindr s k c m = 5 → 16 < s (103 * k + 8) + m) ∧ (hindr s k c m = 3 → ¬ mayBe s k c (s 618)) ∧ (hindr s k c m = 0 → ¬ 16 < s (103 * k + 8) + m) :=
  hind0 (s (103 * k + 2) = c) (isOpen s (s (103 * k + 2)) c) (s (103 * k + 0) ≠ c ∧ ¬ validOn s k c (s 618)) (mayBe s k c (s 618)) (16 < s (103 * k + 8) + m) (s (103 * k + 3) = 60) (mayBe_3 _) _ rfl
theorem hind20 (P1 P2 P3 P4 P5 P5' P6 : Prop) [Decidable P1] [Decidable P2] [Decidable P3] [Decidable P4] [Decidable P5] [Decidable P5'] [Decidable P6] (h : P5' → P5) (R R' : Int) (hR : R = if P1 then 1 else if ¬ P2 then 2 else if P3 then 3 else if ¬ P4 then 4 else if P5 then 5 else if P6 then 6 else 0) (hR' : R' = if P1 then 1 else if ¬ P2 then 2 else if P3 then 3 else if ¬ P4 then 4 else if P5' then 5 else if P6 then 6 else 0) :
    R' = R ∨ (R = 5 ∧ (R' = 6 ∨ R' = 0)) := by
  subst hR
  subst hR'
  by_cases h1 : P1 <;> by_cases h2 : P2 <;> by_cases h3 : P3 <;> by_cases h4 : P4 <;> by_cases h5 : P5 <;> by_cases h5' : P5' <;> by_cases h6 : P6 <;> simp_all
theorem hind2 {m : Int} (hm : m ≤ 2) : hindr s k c m = hindr s k c 2 ∨ (hindr s k c 2 = 5 ∧ (hindr s k c m = 6 ∨ hindr s k c m = 0) ∧ m < 2) := by
  by_cases q : m = 2
  · rw [q]; exact Or.inl rfl
  · rcases hind20 (s (103 * k + 2) = c) (isOpen s (s (103 * k + 2)) c) (s (103 * k + 0) ≠ c ∧ ¬ validOn s k c (s 618)) (mayBe s k c (s 618)) (16 < s (103 * k + 8) + 2) (16 < s (103 * k + 8) + m) (s (103 * k + 3) = 60) (fun z => by omega) (hindr s k c 2) (hindr s k c m) rfl rfl with z | z
    · exact Or.inl z
    · exact Or.inr ⟨z.1, z.2, by omega⟩
/-! the shortest way -/
theorem rchs_0 {j : Nat} (h : 0 ≤ s (103 * k + 2)) : (rchs s k 0).testBit j = true ↔ s (103 * k + 2) = (j : Int) := by
  show (2 ^ (s (103 * k + 2)).toNat).testBit j = true ↔ _
  rw [Nat.testBit_two_pow, decide_eq_true_iff]
  omega
theorem rchs_1 {j : Nat} (h : 0 ≤ s (103 * k + 2) ∧ s (103 * k + 2) ≤ 5) : (rchs s k 1).testBit j = true ↔ s (103 * k + 2) = (j : Int) ∨ (j < 6 ∧ mayBe s k j (s 618) ∧ ¬ s (103 * k + 2) = (j : Int) ∧ isOpen s (s (103 * k + 2)) j) := by
  show (rchO s k (rchs s k 0) 6).testBit j = true ↔ _
  rw [rchO_tb, rchs_0 h.1]
  constructor
  · rintro (a | ⟨a, b, i, c, d, f, g⟩)
    · exact Or.inl a
    · have e := (rchs_0 h.1).mp f
      rw [e]
      exact Or.inr ⟨a, b, by omega, g⟩
  · rintro (a | ⟨a, b, d, g⟩)
    · exact Or.inl a
    · have hn : ((s (103 * k + 2)).toNat : Int) = s (103 * k + 2) := by omega
      exact Or.inr ⟨a, b, (s (103 * k + 2)).toNat, by omega, by omega, (rchs_0 h.1).mpr hn.symm, by rw [hn]; exact g⟩
theorem rchs_m {j : Nat} (h : 0 ≤ s (103 * k + 2)) : ∀ f : Nat, (rchs s k f).testBit j = true → s (103 * k + 2) = (j : Int) ∨ mayBe s k j (s 618)
  | 0, q => Or.inl ((rchs_0 h).mp q)
  | f + 1, q => by
    rcases (rchO_tb 6).mp (show (rchO s k (rchs s k f) 6).testBit j = true from q) with a | ⟨_, b, _⟩
    · exact rchs_m h f a
    · exact Or.inr b
theorem wayF_b {j : Nat} : ∀ f i : Nat, wayF s k j f i = -5 ∨ ∃ z : Nat, wayF s k j f i = (z : Int) ∧ i ≤ z ∧ z < i + f ∧ (rchs s k z).testBit j = true
  | 0, _ => Or.inl rfl
  | f + 1, i => by
    unfold wayF
    by_cases q : (rchs s k i).testBit j = true
    · rw [if_pos q]; exact Or.inr ⟨i, rfl, by omega, by omega, q⟩
    · rw [if_neg q]
      rcases wayF_b f (i + 1) with h | ⟨z, a, b, c, d⟩
      · exact Or.inl h
      · exact Or.inr ⟨z, a, by omega, by omega, d⟩
theorem way_so {j : Nat} (hj : j < 6) (h : 0 ≤ s (103 * k + 2) ∧ s (103 * k + 2) ≤ 5) : (wayF s k j 6 0 = -5 ∨ (0 ≤ wayF s k j 6 0 ∧ wayF s k j 6 0 < 6)) ∧ (wayF s k j 6 0 = 0 ↔ hindr s k j 2 = 1) ∧ (wayF s k j 6 0 = 1 ↔ hindr s k j 2 = 0 ∨ 4 < hindr s k j 2) ∧ (wayF s k j 6 0 < 2 ∨ hindr s k j 2 = 2) := by
  have hi := hind s k j 2
  have h0 := rchs_0 (s := s) (k := k) (j := j) h.1
  have h1 := rchs_1 (s := s) (k := k) (j := j) h
  rw [hi.1, hi.2.2.1, hi.2.1]
  have e0 : wayF s k j 6 0 = if (rchs s k 0).testBit j = true then ((0 : Nat) : Int) else wayF s k j 5 1 := rfl
  by_cases q0 : (rchs s k 0).testBit j = true
  · have p0 := h0.mp q0
    rw [e0, if_pos q0]
    exact ⟨Or.inr (by omega), ⟨fun _ => p0, fun _ => rfl⟩, ⟨fun z => absurd z (by decide), fun z => absurd p0 z.1⟩, Or.inl (by decide)⟩
  · have p0 : ¬ s (103 * k + 2) = (j : Int) := fun z => q0 (h0.mpr z)
    rw [e0, if_neg q0]
    have e1 : wayF s k j 5 1 = if (rchs s k 1).testBit j = true then ((1 : Nat) : Int) else wayF s k j 4 2 := rfl
    by_cases q1 : (rchs s k 1).testBit j = true
    · have p1 := h1.mp q1
      rw [e1, if_pos q1]
      have p2 : mayBe s k j (s 618) ∧ isOpen s (s (103 * k + 2)) j := p1.elim (fun z => absurd z p0) (fun z => ⟨z.2.1, z.2.2.2⟩)
      exact ⟨Or.inr (by omega), ⟨fun z => absurd z (by decide), fun z => absurd z p0⟩, ⟨fun _ => ⟨p0, p2.2, p2.1⟩, fun _ => rfl⟩, Or.inl (by decide)⟩
    · rw [e1, if_neg q1]
      have p1 : ¬ (¬ s (103 * k + 2) = (j : Int) ∧ isOpen s (s (103 * k + 2)) j ∧ mayBe s k j (s 618)) := fun z => q1 (h1.mpr (Or.inr ⟨hj, z.2.2, z.1, z.2.1⟩))
      rcases wayF_b (s := s) (k := k) (j := j) 4 2 with z | ⟨z, a, b, d, f⟩
      · rw [z]
        exact ⟨Or.inl rfl, ⟨fun y => absurd y (by decide), fun y => absurd y p0⟩, ⟨fun y => absurd y (by decide), fun y => absurd y p1⟩, Or.inl (by decide)⟩
      · rw [a]
        have hm : mayBe s k j (s 618) := (rchs_m h.1 z f).elim (fun y => absurd y p0) id
        exact ⟨Or.inr (by omega), ⟨fun y => absurd y (by omega), fun y => absurd y p0⟩, ⟨fun y => absurd y (by omega), fun y => absurd y p1⟩, Or.inr ⟨p0, fun y => p1 ⟨p0, y, hm⟩⟩⟩
/-! the book -/
theorem gap_fit {i : Int} (h : 0 < i) : isGap s k i ↔ if isE s k i then isE s k (i - 1) else ¬ (isE s k (i - 1) ∧ stC s k i = stC s k (i - 1)) := by
  have hb : bP s k i = if s (103 * k + (9 + (i - 1))) % 2 = 1 then stC s k (i - 1) else -5 := by
    have := bP_s (s := s) (p := k) (r := i - 1) (by omega)
    rw [show i - 1 + 1 = i by omega] at this
    exact this
  have c0 := stC_b s k (i - 1)
  have c1 := stC_b s k i
  by_cases q : isE s k i
  · rw [if_pos q, isGap_e q, hb]
    by_cases q2 : s (103 * k + (9 + (i - 1))) % 2 = 1
    · rw [if_pos q2]; exact ⟨fun _ => q2, fun _ => by omega⟩
    · rw [if_neg q2]; exact ⟨fun z => absurd rfl z, fun z => absurd z q2⟩
  · rw [if_neg q, isGap_x q, hb]
    by_cases q2 : s (103 * k + (9 + (i - 1))) % 2 = 1
    · rw [if_pos q2]
      exact ⟨fun z y => z y.2.symm, fun z y => z ⟨q2, y.symm⟩⟩
    · rw [if_neg q2]
      exact ⟨fun _ y => q2 y.1, fun _ => by omega⟩
theorem bP_last {m : Int} (h : 0 < m) : bP s k m = if isE s k (m - 1) then stC s k (m - 1) else -5 := by
  have := bP_s (s := s) (p := k) (r := m - 1) (by omega)
  rw [show m - 1 + 1 = m by omega] at this
  exact this
theorem bP_none : bP s k 0 = s (103 * k + 6) := if_pos rfl
theorem stD_b (h : OkP s k) {r : Int} (hr : 0 ≤ r ∧ r < s (103 * k + 8)) : 0 ≤ stD s k r ∧ stD s k r ≤ s 618 := by
  have h1 := h.st hr.1 hr.2
  have h2 := (h.bd hr.1 hr.2).2
  rw [bD_s hr.1] at h2
  refine ⟨?_, h2⟩
  unfold stD
  omega
theorem stD_m (h : OkP s k) {r : Int} (hr : 0 < r ∧ r < s (103 * k + 8)) : stD s k (r - 1) ≤ stD s k r := by
  have h2 := (h.bd (r := r) (by omega) hr.2).1
  rw [bD_s (by omega)] at h2
  have e : bD s k r = stD s k (r - 1) := by
    have := bD_s (s := s) (p := k) (r := r - 1) (by omega)
    rw [show r - 1 + 1 = r by omega] at this
    exact this
  rw [e] at h2
  exact h2
theorem gaps_s (s : Int → Int) (k : Int) : gapsOf s k = sumI (fun r => bI (isGap s k r)) (s (103 * k + 8)).toNat := rfl
/-! stays -/
theorem ind_sum (x : Int) : ∀ n : Nat, sumI (fun c => bI (x = c)) n = bI (0 ≤ x ∧ x < n)
  | 0 => by rw [bI_f (by omega)]; rfl
  | n + 1 => by
    rw [sumI_s, ind_sum x n]
    unfold bI
    repeat' split
    all_goals omega
theorem sum_days (D P : Int → Int) (K a : Int) : ∀ len : Nat, sumI (fun c => daysOn D P K c a len) 6 ≤ len
  | 0 => by rw [sumI_z (fun i hi => (rfl : daysOn D P K i a 0 = 0))]; exact Int.le_refl _
  | n + 1 => by
    have h := sum_days D P K a n
    have e : sumI (fun c => daysOn D P K c a (n + 1)) 6 = sumI (fun c => daysOn D P K c a n) 6 + sumI (fun c => bI (trAt D P K (a + n) = c)) 6 := sumI_add (fun c => daysOn D P K c a n) (fun c => bI (trAt D P K (a + n) = c)) 6
    have hb := bI_b (0 ≤ trAt D P K (a + n) ∧ trAt D P K (a + n) < (6 : Nat))
    rw [e, ind_sum]
    omega
theorem real_le (h : Ok s) (k : Int) : sumI (fun c => realDays s k c 0 999 (s 618)) 6 ≤ s 618 := by
  have hd := h.day
  have := sum_days (jD s k) (jP s k) (s (103 * k + 3)) 0 (min (999 + 1) (s 618) - 0).toNat
  show sumI (fun c => daysOn (jD s k) (jP s k) (s (103 * k + 3)) c 0 (min (999 + 1) (s 618) - 0).toNat) 6 ≤ _
  omega
theorem real_bb (h : Ok s) (k c : Int) : 0 ≤ realDays s k c 0 999 (s 618) ∧ realDays s k c 0 999 (s 618) ≤ 999 := by
  have hd := h.day
  have := daysOn_b (jD s k) (jP s k) (s (103 * k + 3)) c 0 (min (999 + 1) (s 618) - 0).toNat
  unfold realDays
  omega
theorem told_bb (h : Ok s) (k c : Int) : 0 ≤ toldDays s k c 0 999 (s 618) ∧ toldDays s k c 0 999 (s 618) ≤ s 618 := by
  have hd := h.day
  have := daysOn_b (bD s k) (bP s k) (s (103 * k + 8)) c 0 (min (999 + 1) (s 618) - 0).toNat
  unfold toldDays
  omega
theorem visN_s (s : Int → Int) (k : Int) : visN s k 0 = sumI (fun c => bI (hasV s k c)) 6 := visN0 s k
/-! a crossing -/
theorem crossA_v {f : Int} (h8 : 0 ≤ s (103 * k + 8)) (hf : f % 2 = 0) : crossA s k f (103 * k + (9 + s (103 * k + 8))) = 12 * s 618 + 2 * s (103 * k + 2) := by
  unfold crossA
  rw [if_pos hf, stampS_v h8]
  omega
theorem crossS_at {f w : Int} (hw : 8 ≤ w ∧ w < 25) (h3 : 0 ≤ crossC s k c f (103 * k + 3)) (hk : 0 ≤ k ∧ k < 6) : crossS s k c f (103 * k + w) = crossB s k c f (103 * k + w) := by
  unfold crossS crossE crossD
  rw [upI_n _ _ (by omega), upI_n _ _ (by omega), upI_n _ _ (by omega)]
  unfold crossC
  rw [upI_n _ _ (by omega)]
theorem crossS_so {f : Int} (hk : 0 ≤ k ∧ k < 6) (hc : 0 ≤ c ∧ c ≤ 5) (hw : 0 ≤ s (103 * k + 2) ∧ s (103 * k + 2) ≤ 5) (hf : 0 ≤ f ∧ f ≤ 3) (h8 : 0 ≤ s (103 * k + 8) ∧ s (103 * k + 8) + (2 - f % 2 - f / 2) ≤ 16) (h3 : 0 ≤ s (103 * k + 3) ∧ s (103 * k + 3) < 60) :
    crossS s k c f (103 * k + 8) = s (103 * k + 8) + (2 - f % 2 - f / 2) ∧ crossS s k c f (103 * k + 2) = c ∧ (f < 2 → bP (crossS s k c f) k (crossS s k c f (103 * k + 8)) = c) ∧ (f % 2 = 0 → stC (crossS s k c f) k (s (103 * k + 8)) = s (103 * k + 2) ∧ ¬ isE (crossS s k c f) k (s (103 * k + 8))) := by
  have n3 : _ := crossB_n (s := s) (p := k) (c := c) (f := f) (j := 103 * k + 3) (Or.inl (by omega)) hf h8
  have c3 : crossC s k c f (103 * k + 3) = s (103 * k + 3) := by unfold crossC; rw [upI_n _ _ (by omega)]; exact n3
  have at_ : ∀ w : Int, 8 ≤ w → w < 25 → crossS s k c f (103 * k + w) = crossB s k c f (103 * k + w) := fun w w0 w1 => crossS_at ⟨w0, w1⟩ (by omega) hk
  have a8 := crossA_8 (s := s) (p := k) (f := f) h8.1 hf.1
  have b8 : crossB s k c f (103 * k + 8) = s (103 * k + 8) + (2 - f % 2 - f / 2) := by
    unfold crossB
    split
    · rw [stampS_8 (by omega)]; omega
    · omega
  refine ⟨(at_ 8 (by omega) (by omega)).trans b8, upI_s _ _ _, fun hf2 => ?_, fun hf0 => ?_⟩
  · rw [at_ 8 (by omega) (by omega), b8]
    have e : s (103 * k + 8) + (2 - f % 2 - f / 2) = crossA s k f (103 * k + 8) + 1 := by omega
    have av : crossB s k c f (103 * k + (9 + crossA s k f (103 * k + 8))) = 12 * crossA s k f 618 + 2 * c + 1 := by
      unfold crossB
      rw [if_pos hf2, stampS_v (by omega)]
    rw [e, bP_s (by omega), if_pos (by rw [at_ _ (by omega) (by omega), av]; omega)]
    unfold stC
    rw [at_ _ (by omega) (by omega), av]
    omega
  · have av : crossB s k c f (103 * k + (9 + s (103 * k + 8))) = 12 * s 618 + 2 * s (103 * k + 2) := by
      unfold crossB
      split
      · rw [stampS_n (by omega) (by omega)]; exact crossA_v h8.1 hf0
      · exact crossA_v h8.1 hf0
    unfold stC isE
    rw [at_ _ (by omega) (by omega), av]
    omega
theorem errCross_e {f : Int} (hk : 0 ≤ k ∧ k < s 619) (hc : 0 ≤ c ∧ c ≤ 5) (hf : 0 ≤ f ∧ f ≤ 3) : errCross s k c f = if 0 < hindr s k c (2 - f % 2 - f / 2) then -10 - hindr s k c (2 - f % 2 - f / 2) else 0 := (if_neg (fun q => q ⟨⟨hk.1, by omega⟩, hc⟩)).trans (if_neg (fun q => q hf))
/-- refused, or done: as the reason tells -/
theorem errCross_so {f : Int} (hk : 0 ≤ k ∧ k < s 619) (hc : 0 ≤ c ∧ c ≤ 5) (hf : 0 ≤ f ∧ f ≤ 3) : (errCross s k c f = 0 → hindr s k c 2 = 0 ∨ (hindr s k c 2 = 5 ∧ 2 - f % 2 - f / 2 < 2)) ∧ (¬ errCross s k c f = 0 → (-16 ≤ errCross s k c f ∧ errCross s k c f ≤ -11) ∧ (errCross s k c f = -10 - hindr s k c 2 ∨ (hindr s k c 2 = 5 ∧ errCross s k c f = -16))) := by
  have e := errCross_e hk hc hf
  have hb := hindr_b s k c (2 - f % 2 - f / 2)
  have h2 := hind2 (s := s) (k := k) (c := c) (m := 2 - f % 2 - f / 2) (by omega)
  generalize hindr s k c (2 - f % 2 - f / 2) = R' at e hb h2
  by_cases q : 0 < R'
  · rw [if_pos q] at e
    omega
  · rw [if_neg q] at e
    omega
/-! undone -/
theorem recH_top {H : Int → Int → Int} {s : Int → Int} {kn : Int} (h : 0 ≤ kn ∧ kn ≤ 4) : recH H s kn (recK kn - 1) = s := by
  unfold recH recK
  by_cases q : kn = 4
  · rw [if_pos q, if_pos q]; exact if_pos (by omega)
  · rw [if_neg q, if_neg q]; exact if_pos (by omega)
theorem recK_v (kn : Int) : recK kn - 1 = if kn = 4 then 3 else kn := by
  unfold recK
  split <;> omega
theorem undo_rec {A : AS} {t : Int → Int} (h : 0 ≤ A.2.2.1 ∧ A.2.2.1 ≤ 4) : (a_undo (recA A t)).1 = (if A.2.2.1 = 4 then 3 else A.2.2.1) ∧ (a_undo (recA A t)).2.1 = A.1 := by
  have hk : ¬ recK A.2.2.1 = 0 := by unfold recK; split <;> omega
  have e : a_undo (recA A t) = (recK A.2.2.1 - 1, (recH A.2.1 A.1 A.2.2.1 (recK A.2.2.1 - 1), recH A.2.1 A.1 A.2.2.1, recK A.2.2.1 - 1, A.2.2.2)) := if_neg hk
  rw [e]
  exact ⟨recK_v _, recH_top h⟩
end
