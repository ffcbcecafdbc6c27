/-! HOW MANY CROSSINGS, as the class counts them -/
def bes (cl : Int64) (S : Nat) (c : Int) : Nat → Bool
  | 0 => false
  | k + 1 => bes cl S c k || (S.testBit k && decide (cl &&& brd k c = 0))
theorem bes_s {cl : Int64} {S : Nat} {c : Int} {k : Nat} (h : bes cl S c k = true) : bes cl S c (k + 1) = true := by unfold bes; rw [h]; rfl
theorem bes_6 {cl : Int64} {S : Nat} {c : Int} : ∀ (f : Nat) {k : Nat}, k + f = 6 → bes cl S c k = true → bes cl S c 6 = true
  | 0, k, h, hb => by rw [show 6 = k by omega]; exact hb
  | f + 1, k, h, hb => bes_6 f (k := k + 1) (by omega) (bes_s hb)
theorem bes_n {cl : Int64} {S : Nat} {c : Int} {k : Nat} (h : bes cl S c k = false) (h2 : S.testBit k = false ∨ ¬ cl &&& brd k c = 0) : bes cl S c (k + 1) = false := by
  unfold bes; rw [h]
  rcases h2 with q | q
  · rw [q]; rfl
  · rw [decide_eq_false q, Bool.and_false]; rfl
theorem bes_y {cl : Int64} {S : Nat} {c : Int} {k : Nat} (h : S.testBit k = true) (h2 : cl &&& brd k c = 0) : bes cl S c (k + 1) = true := by
  unfold bes; rw [h, decide_eq_true h2]; cases bes cl S c k <;> rfl
def oneN (s : Int → Int) (p : Int) (cl : Int64) (S : Nat) : Nat → Nat
  | 0 => 0
  | c + 1 => oneN s p cl S c ||| (if mayBe s p c (s 618) ∧ bes cl S c 6 = true then 2 ^ c else 0)
theorem oneN_b {s : Int → Int} {p : Int} {cl : Int64} {S : Nat} : ∀ k : Nat, k ≤ 6 → oneN s p cl S k < 64
  | 0, _ => by show 0 < 64; omega
  | k + 1, h => or_lt (oneN_b k (by omega)) (ifpow_lt (by omega))
def frch (s : Int → Int) (p : Int) (cl : Int64) : Nat → Nat
  | 0 => 2 ^ (s (103 * p + 2)).toNat
  | k + 1 => frch s p cl k ||| oneN s p cl (frch s p cl k) 6
theorem frch_b {s : Int → Int} {p : Int} {cl : Int64} (h : 0 ≤ s (103 * p + 2) ∧ s (103 * p + 2) ≤ 5) : ∀ k : Nat, frch s p cl k < 64
  | 0 => pow_lt6 (by omega)
  | k + 1 => or_lt (frch_b h k) (oneN_b 6 (Nat.le_refl _))
def wayG (s : Int → Int) (p : Int) (cl : Int64) (c : Nat) : Nat → Nat → Int
  | 0, _ => -5
  | f + 1, k => if (frch s p cl k).testBit c = true then (k : Int) else wayG s p cl c f (k + 1)
theorem tb_0 {S k : Nat} (h : ((S &&& 2 ^ k : Nat) : Int) = 0) : S.testBit k = false := (fb_bit_nat S k).mp (by omega)
theorem tb_1 {S k : Nat} (h : ¬ ((S &&& 2 ^ k : Nat) : Int) = 0) : S.testBit k = true := by
  cases q : S.testBit k
  · exact absurd (by have := (fb_bit_nat S k).mpr q; omega) h
  · rfl
theorem and_b {S k : Nat} (h : S < 64) : S &&& 2 ^ k < 64 := Nat.lt_of_le_of_lt Nat.and_le_left h
