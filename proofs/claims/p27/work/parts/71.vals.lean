/-! WHAT THE QUERIES ANSWER, one by one -/
theorem sumI_ub {f : Int → Int} {B : Int} : ∀ n : Nat, (∀ i : Nat, i < n → 0 ≤ f i ∧ f i ≤ B) → 0 ≤ sumI f n ∧ sumI f n ≤ B * n
  | 0, _ => by simp [sumI]
  | n + 1, h => by
    have h1 := sumI_ub n (fun i hi => h i (by omega))
    have h2 := h n (by omega)
    rw [sumI_s, show B * ((n + 1 : Nat) : Int) = B * (n : Int) + B by rw [Int.natCast_add, Int.mul_add]; simp]
    omega
theorem sumI_mono {f h : Int → Int} : ∀ n : Nat, (∀ i : Nat, i < n → f i ≤ h i) → sumI f n ≤ sumI h n
  | 0, _ => Int.le_refl _
  | n + 1, hh => by
    have h1 := sumI_mono n (fun i hi => hh i (by omega))
    have h2 := hh n (by omega)
    rw [sumI_s, sumI_s]
    omega
section
variable {s : Int → Int} {k c r e kn ln : Int}
theorem pas (hk : 0 ≤ k ∧ k < s 619) (w : Int) : q_passport s k w = passF s k w := if_neg (fun q => q ⟨hk.1, by omega⟩)
theorem pas0 (hk : 0 ≤ k ∧ k < s 619) : q_passport s k 0 = s (103 * k + 0) := (pas hk 0).trans rfl
theorem pas1 (hk : 0 ≤ k ∧ k < s 619) : q_passport s k 1 = s (103 * k + 2) := (pas hk 1).trans rfl
theorem pas2 (hk : 0 ≤ k ∧ k < s 619) : q_passport s k 2 = bP s k (s (103 * k + 8)) := (pas hk 2).trans rfl
theorem pas3 (hk : 0 ≤ k ∧ k < s 619) : q_passport s k 3 = s (103 * k + 8) := (pas hk 3).trans rfl
theorem pas4 (hk : 0 ≤ k ∧ k < s 619) : q_passport s k 4 = gapsOf s k := (pas hk 4).trans rfl
theorem pas5 (hk : 0 ≤ k ∧ k < s 619) : q_passport s k 5 = s (103 * k + 3) := (pas hk 5).trans rfl
theorem pas6 (hk : 0 ≤ k ∧ k < s 619) : q_passport s k 6 = s (103 * k + 4) := (pas hk 6).trans rfl
theorem pas7 (hk : 0 ≤ k ∧ k < s 619) : q_passport s k 7 = s (103 * k + 5) := (pas hk 7).trans rfl
theorem pas8 (hk : 0 ≤ k ∧ k < s 619) : q_passport s k 8 = visN s k 0 := (pas hk 8).trans rfl
theorem stp (hk : 0 ≤ k ∧ k < s 619) (hr : 0 ≤ r ∧ r < s (103 * k + 8)) (w : Int) : q_stamp s k r w = stampF s k r w := if_neg (fun q => q ⟨⟨hk.1, by omega⟩, hr.1, by omega⟩)
theorem stp_n (hr : s (103 * k + 8) ≤ r) (w : Int) : q_stamp s k r w = -1 := if_pos (fun q => by omega)
theorem stp0 (hk : 0 ≤ k ∧ k < s 619) (hr : 0 ≤ r ∧ r < s (103 * k + 8)) : q_stamp s k r 0 = stD s k r := (stp hk hr 0).trans rfl
theorem stp1 (hk : 0 ≤ k ∧ k < s 619) (hr : 0 ≤ r ∧ r < s (103 * k + 8)) : q_stamp s k r 1 = stC s k r := (stp hk hr 1).trans rfl
theorem stp2 (hk : 0 ≤ k ∧ k < s 619) (hr : 0 ≤ r ∧ r < s (103 * k + 8)) : q_stamp s k r 2 = bI (isE s k r) := (stp hk hr 2).trans rfl
theorem stp3 (hk : 0 ≤ k ∧ k < s 619) (hr : 0 ≤ r ∧ r < s (103 * k + 8)) : q_stamp s k r 3 = bI (isGap s k r) := (stp hk hr 3).trans rfl
theorem stp4 (hk : 0 ≤ k ∧ k < s 619) (hr : 0 ≤ r ∧ r < s (103 * k + 8)) : q_stamp s k r 4 = r / 4 := (stp hk hr 4).trans rfl
theorem arT (hk : 0 ≤ k ∧ k < s 619) (hc : 0 ≤ c ∧ c < 6) : areT s k c := ⟨⟨hk.1, by omega⟩, hc.1, by omega⟩
theorem vis_n {w : Int} (hk : 0 ≤ k ∧ k < s 619) (hc : 0 ≤ c ∧ c < 6) (hw : 0 ≤ w ∧ w ≤ 4) (hv : ¬ hasV s k c) : q_visa s k c w = -5 := (if_neg (fun q => q (arT hk hc))).trans ((if_neg (fun q => q hw)).trans (if_pos hv))
theorem vis_y {w : Int} (hk : 0 ≤ k ∧ k < s 619) (hc : 0 ≤ c ∧ c < 6) (hw : 0 ≤ w ∧ w ≤ 4) (hv : hasV s k c) : q_visa s k c w = if w < 3 then vOf s k c w else if w = 3 then usedOn s k c (s 618) else bI (validOn s k c (s 618)) := (if_neg (fun q => q (arT hk hc))).trans ((if_neg (fun q => q hw)).trans (if_neg (fun q => q hv)))
theorem vis0 (hk : 0 ≤ k ∧ k < s 619) (hc : 0 ≤ c ∧ c < 6) (hv : hasV s k c) : q_visa s k c 0 = vOf s k c 0 := (vis_y hk hc (by decide) hv).trans rfl
theorem vis1 (hk : 0 ≤ k ∧ k < s 619) (hc : 0 ≤ c ∧ c < 6) (hv : hasV s k c) : q_visa s k c 1 = vOf s k c 1 := (vis_y hk hc (by decide) hv).trans rfl
theorem vis2 (hk : 0 ≤ k ∧ k < s 619) (hc : 0 ≤ c ∧ c < 6) (hv : hasV s k c) : q_visa s k c 2 = vOf s k c 2 := (vis_y hk hc (by decide) hv).trans rfl
theorem vis3 (hk : 0 ≤ k ∧ k < s 619) (hc : 0 ≤ c ∧ c < 6) (hv : hasV s k c) : q_visa s k c 3 = usedOn s k c (s 618) := (vis_y hk hc (by decide) hv).trans rfl
theorem vis4 (hk : 0 ≤ k ∧ k < s 619) (hc : 0 ≤ c ∧ c < 6) (hv : hasV s k c) : q_visa s k c 4 = bI (validOn s k c (s 618)) := (vis_y hk hc (by decide) hv).trans rfl
theorem rea (hk : 0 ≤ k ∧ k < s 619) (hc : 0 ≤ c ∧ c < 6) : q_reason s k c = hindr s k c 2 := if_pos (arT hk hc)
theorem sty0 (hk : 0 ≤ k ∧ k < s 619) (hc : 0 ≤ c ∧ c < 6) : q_stay s k c 0 999 0 = realDays s k c 0 999 (s 618) := (if_neg (fun q => q (arT hk hc))).trans ((if_neg (fun q => q (by decide))).trans rfl)
theorem sty1 {a u : Int} (hk : 0 ≤ k ∧ k < s 619) (hc : 0 ≤ c ∧ c < 6) (ha : 0 ≤ a ∧ a ≤ 999) (hu : a ≤ u ∧ u ≤ 999) : q_stay s k c a u 1 = toldDays s k c a u (s 618) := (if_neg (fun q => q (arT hk hc))).trans ((if_neg (fun q => q ⟨ha, hu⟩)).trans rfl)
theorem wayq (hk : 0 ≤ k ∧ k < s 619) (hc : 0 ≤ c ∧ c < 6) : q_wayTo s k c = wayF s k c.toNat 6 0 := if_neg (fun q => q (arT hk hc))
theorem lft_n (hk : 0 ≤ k ∧ k < s 619) (hc : 0 ≤ c ∧ c < 6) (hv : ¬ hasV s k c) : q_daysLeft s k c = -5 := (if_neg (fun q => q (arT hk hc))).trans (if_pos hv)
theorem lft_y (hk : 0 ≤ k ∧ k < s 619) (hc : 0 ≤ c ∧ c < 6) (hv : hasV s k c) : q_daysLeft s k c = max 0 (min (vOf s k c 2 - usedOn s k c (s 618)) (vOf s k c 1 - max (vOf s k c 0) (s 618) + 1)) := (if_neg (fun q => q (arT hk hc))).trans (if_neg (fun q => q hv))
theorem hldq {t : Int} (hc : 0 ≤ c ∧ c < 6) : q_holders s c t = (hldN s c t (s 619).toNat : Nat) := if_neg (fun q => q ⟨hc.1, by omega⟩)
theorem cnt0 : q_count s kn ln 0 = s 618 := rfl
theorem cnt1 : q_count s kn ln 1 = s 619 := rfl
theorem cnt2 : q_count s kn ln 2 = closedN s := rfl
theorem cnt3 : q_count s kn ln 3 = sumOf s 3 := rfl
theorem cnt4 : q_count s kn ln 4 = sumOf s 4 := rfl
theorem cnt5 : q_count s kn ln 5 = sumOf s 5 := rfl
theorem cnt6 : q_count s kn ln 6 = sumOf s 6 := rfl
theorem cnt7 : q_count s kn ln 7 = sumOf s 7 := rfl
theorem cnt8 : q_count s kn ln 8 = sumOf s 8 := rfl
theorem cnt9 : q_count s kn ln 9 = s 621 := rfl
theorem cnt10 : q_count s kn ln 10 = kn := rfl
theorem cntS {w : Int} (h : 0 ≤ w ∧ w < 10) : q_count s kn ln w = q_count s 0 0 w := by
  unfold q_count
  rw [if_neg (show ¬ w = 10 by omega), if_neg (show ¬ w = 11 by omega), if_neg (show ¬ w = 10 by omega), if_neg (show ¬ w = 11 by omega)]
theorem gapsOf_b (h : OkP s k) : 0 ≤ gapsOf s k ∧ gapsOf s k ≤ 16 := by
  have h1 := h.stm
  have := sumI_le (f := fun r => bI (isGap s k r)) (fun i => bI_b _) (s (103 * k + 8)).toNat
  unfold gapsOf
  omega
theorem visN_b (s : Int → Int) (k f : Int) : 0 ≤ visN s k f ∧ visN s k f ≤ 6 := by
  have := sumI_le (f := fun c => if f = 0 then bI (hasV s k c) else bI (validOn s k c (s 618))) (fun i => by
    by_cases q : f = 0
    · rw [if_pos q]; exact bI_b _
    · rw [if_neg q]; exact bI_b _) 6
  unfold visN
  omega
theorem visN_le (s : Int → Int) (k : Int) : visN s k 1 ≤ visN s k 0 := by
  unfold visN
  refine sumI_mono 6 fun i hi => ?_
  rw [if_neg (show ¬ (1 : Int) = 0 by decide), if_pos (show (0 : Int) = 0 from rfl)]
  by_cases q : validOn s k i (s 618)
  · rw [bI_t q, bI_t q.1]; exact Int.le_refl _
  · rw [bI_f q]; exact (bI_b _).1
/-! sets of holders, bit by bit -/
theorem misN_tb {j : Nat} : ∀ n : Nat, (misN s n).testBit j = true ↔ j < n ∧ bP s j (s (103 * (j : Int) + 8)) ≠ s (103 * (j : Int) + 2)
  | 0 => by simp [misN]
  | n + 1 => by
    unfold misN
    rw [tb_or, tb_if, misN_tb n]
    constructor
    · rintro (⟨a, b⟩ | ⟨a, b⟩)
      · exact ⟨by omega, b⟩
      · subst a; exact ⟨by omega, b⟩
    · rintro ⟨a, b⟩
      by_cases q : n = j
      · subst q; exact Or.inr ⟨rfl, b⟩
      · exact Or.inl ⟨by omega, b⟩
theorem hldN_tb {t : Int} {j : Nat} : ∀ n : Nat, (hldN s c t n).testBit j = true ↔ j < n ∧ (if t = 0 then s (103 * (j : Int) + 2) else bP s j (s (103 * (j : Int) + 8))) = c
  | 0 => by simp [hldN]
  | n + 1 => by
    unfold hldN
    rw [tb_or, tb_if, hldN_tb n]
    constructor
    · rintro (⟨a, b⟩ | ⟨a, b⟩)
      · exact ⟨by omega, b⟩
      · subst a; exact ⟨by omega, b⟩
    · rintro ⟨a, b⟩
      by_cases q : n = j
      · subst q; exact Or.inr ⟨rfl, b⟩
      · exact Or.inl ⟨by omega, b⟩
/-- those who are in the first c countries -/
def herN (s : Int → Int) : Nat → Nat
  | 0 => 0
  | c + 1 => herN s c ||| hldN s c 0 (s 619).toNat
theorem herN_b (h : (s 619).toNat ≤ 6) : ∀ c : Nat, herN s c < 64
  | 0 => by show 0 < 64; omega
  | c + 1 => or_lt (herN_b h c) (hldN_b _ h)
theorem herN_tb {j : Nat} : ∀ c : Nat, (herN s c).testBit j = true ↔ j < (s 619).toNat ∧ 0 ≤ s (103 * (j : Int) + 2) ∧ s (103 * (j : Int) + 2) < c
  | 0 => by
    refine ⟨fun h => absurd h (by simp [herN]), fun h => absurd h.2.2 (by omega)⟩
  | c + 1 => by
    unfold herN
    rw [tb_or, herN_tb c, hldN_tb, if_pos rfl]
    omega
theorem her_apart {c : Nat} : herN s c &&& hldN s c 0 (s 619).toNat = 0 := by
  apply Nat.eq_of_testBit_eq
  intro j
  rw [Nat.testBit_and, Nat.zero_testBit]
  cases q : (herN s c).testBit j
  · rfl
  · cases q2 : (hldN s c 0 (s 619).toNat).testBit j
    · rfl
    · have a := (herN_tb c).mp q
      have b := (hldN_tb _).mp q2
      rw [if_pos rfl] at b
      omega
theorem her_all (h : Ok s) : herN s 6 = 2 ^ (s 619).toNat - 1 := by
  apply Nat.eq_of_testBit_eq
  intro j
  rw [Nat.testBit_two_pow_sub_one]
  apply Bool.eq_iff_iff.mpr
  rw [herN_tb, decide_eq_true_iff]
  refine ⟨fun q => q.1, fun q => ⟨q, ?_⟩⟩
  have := (h.at (p := (j : Int)) (by omega) (by omega)).whr
  omega
theorem not6 : ∀ a : Nat, a < 64 → ∀ b : Nat, b < 64 → iI (a : Int) &&& (iI (b : Int) ^^^ iI (-1)) = iI ((a &&& (63 ^^^ b) : Nat) : Int) := by decide +kernel
theorem b63 {j : Nat} (h : j < 6) : Nat.testBit 63 j = true := by
  rcases (show j = 0 ∨ j = 1 ∨ j = 2 ∨ j = 3 ∨ j = 4 ∨ j = 5 by omega) with rfl | rfl | rfl | rfl | rfl | rfl <;> rfl
theorem told_in (h : (s 619).toNat ≤ 6) {c : Int} : (hldN s c 1 (s 619).toNat &&& (63 ^^^ misN s (s 619).toNat)) &&& (63 ^^^ hldN s c 0 (s 619).toNat) = 0 := by
  apply Nat.eq_of_testBit_eq
  intro j
  rw [Nat.testBit_and, Nat.testBit_and, Nat.testBit_xor, Nat.testBit_xor, Nat.zero_testBit]
  cases q : (hldN s c 1 (s 619).toNat).testBit j
  · rfl
  · have a := (hldN_tb _).mp q
    rw [if_neg (by decide)] at a
    rw [b63 (by omega)]
    by_cases q2 : s (103 * (j : Int) + 2) = c
    · have b : (hldN s c 0 (s 619).toNat).testBit j = true := (hldN_tb _).mpr ⟨a.1, by rw [if_pos rfl]; exact q2⟩
      rw [b]; simp
    · have b : (misN s (s 619).toNat).testBit j = true := (misN_tb _).mpr ⟨a.1, by rw [a.2]; exact fun z => q2 z.symm⟩
      rw [b]; simp
end
