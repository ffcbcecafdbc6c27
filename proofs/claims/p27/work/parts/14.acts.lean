/-! WHAT THE QUERIES TELL of a state -/
def visN (s : Int → Int) (p f : Int) : Int := sumI (fun c => if f = 0 then bI (hasV s p c) else bI (validOn s p c (s 618))) 6
def passF (s : Int → Int) (p w : Int) : Int := if w = 0 then s (103 * p + 0) else if w = 1 then s (103 * p + 2) else if w = 2 then bP s p (s (103 * p + 8)) else if w = 3 then s (103 * p + 8) else if w = 4 then gapsOf s p else if w = 5 then s (103 * p + 3) else if w = 6 then s (103 * p + 4) else if w = 7 then s (103 * p + 5) else if w = 8 then visN s p 0 else -2
def q_passport (s : Int → Int) (p w : Int) : Int := if ¬ (0 ≤ p ∧ p ≤ s 619 - 1) then -1 else passF s p w
def stampF (s : Int → Int) (p r w : Int) : Int := if w = 0 then stD s p r else if w = 1 then stC s p r else if w = 2 then bI (isE s p r) else if w = 3 then bI (isGap s p r) else if w = 4 then r / 4 else -2
def q_stamp (s : Int → Int) (p r w : Int) : Int := if ¬ ((0 ≤ p ∧ p ≤ s 619 - 1) ∧ (0 ≤ r ∧ r ≤ s (103 * p + 8) - 1)) then -1 else stampF s p r w
abbrev areT (s : Int → Int) (p c : Int) : Prop := (0 ≤ p ∧ p ≤ s 619 - 1) ∧ (0 ≤ c ∧ c ≤ 5)
def q_visa (s : Int → Int) (p c w : Int) : Int := if ¬ areT s p c then -1 else if ¬ (0 ≤ w ∧ w ≤ 4) then -2 else if ¬ hasV s p c then -5 else if w < 3 then vOf s p c w else if w = 3 then usedOn s p c (s 618) else bI (validOn s p c (s 618))
def q_reason (s : Int → Int) (p c : Int) : Int := if areT s p c then hindr s p c 2 else -1
def q_stay (s : Int → Int) (p c a u t : Int) : Int := if ¬ areT s p c then -1 else if ¬ ((0 ≤ a ∧ a ≤ 999) ∧ (a ≤ u ∧ u ≤ 999)) then -2 else if t = 0 then realDays s p c a u (s 618) else toldDays s p c a u (s 618)
def rchI (s : Int → Int) (set : Nat) (c : Nat) : Nat → Nat → Nat
  | 0, r => r
  | k + 1, r => rchI s set c k r ||| (if k ≠ c ∧ set.testBit k = true ∧ isOpen s k c then 2 ^ c else 0)
def rchO (s : Int → Int) (p : Int) (set : Nat) : Nat → Nat
  | 0 => set
  | c + 1 => if mayBe s p c (s 618) then rchI s set c 6 (rchO s p set c) else rchO s p set c
def rchs (s : Int → Int) (p : Int) : Nat → Nat
  | 0 => 2 ^ (s (103 * p + 2)).toNat
  | k + 1 => rchO s p (rchs s p k) 6
def wayF (s : Int → Int) (p : Int) (c : Nat) : Nat → Nat → Int
  | 0, _ => -5
  | f + 1, k => if (rchs s p k).testBit c = true then (k : Int) else wayF s p c f (k + 1)
def q_wayTo (s : Int → Int) (p c : Int) : Int := if ¬ areT s p c then -1 else wayF s p c.toNat 6 0
def q_daysLeft (s : Int → Int) (p c : Int) : Int := if ¬ areT s p c then -1 else if ¬ hasV s p c then -5 else max 0 (min (vOf s p c 2 - usedOn s p c (s 618)) (vOf s p c 1 - max (vOf s p c 0) (s 618) + 1))
def misN (s : Int → Int) : Nat → Nat
  | 0 => 0
  | k + 1 => misN s k ||| (if bP s k (s (103 * k + 8)) ≠ s (103 * k + 2) then 2 ^ k else 0)
def q_mistold (s : Int → Int) : Int := (misN s (s 619).toNat : Nat)
def hldN (s : Int → Int) (c t : Int) : Nat → Nat
  | 0 => 0
  | k + 1 => hldN s c t k ||| (if (if t = 0 then s (103 * k + 2) else bP s k (s (103 * k + 8))) = c then 2 ^ k else 0)
def q_holders (s : Int → Int) (c t : Int) : Int := if ¬ (0 ≤ c ∧ c ≤ 5) then -1 else (hldN s c t (s 619).toNat : Nat)
def valF (s : Int → Int) (w p : Int) : Int := if w = 3 then s (103 * p + 3) else if w = 4 then s (103 * p + 4) else if w = 5 then s (103 * p + 8) else if w = 6 then gapsOf s p else visN s p (if w = 8 then 1 else 0)
def sumOf (s : Int → Int) (w : Int) : Int := sumI (fun p => valF s w p) (s 619).toNat
def q_count (s : Int → Int) (kn ln w : Int) : Int := if w = 0 then s 618 else if w = 1 then s 619 else if w = 2 then closedN s else if 3 ≤ w ∧ w ≤ 8 then sumOf s w else if w = 9 then s 621 else if w = 10 then kn else if w = 11 then ln else -2
def q_stopped (st se w : Int) : Int := if w = 0 then st else if w = 1 then se else -2
theorem or_lt {a b : Nat} (ha : a < 64) (hb : b < 64) : a ||| b < 64 := Nat.or_lt_two_pow (n := 6) ha hb
theorem pow_lt6 {c : Nat} (h : c < 6) : 2 ^ c < 64 := by
  have : c = 0 ∨ c = 1 ∨ c = 2 ∨ c = 3 ∨ c = 4 ∨ c = 5 := by omega
  rcases this with rfl | rfl | rfl | rfl | rfl | rfl <;> decide
theorem ifpow_lt {c : Prop} [Decidable c] {k : Nat} (h : k < 6) : (if c then 2 ^ k else 0) < 64 := by
  split
  · exact pow_lt6 h
  · omega
theorem rchI_b {s : Int → Int} {set c : Nat} (hc : c < 6) : ∀ (k : Nat) {r : Nat}, r < 64 → rchI s set c k r < 64
  | 0, r, h => h
  | k + 1, r, h => by
    unfold rchI
    refine or_lt (rchI_b hc k h) ?_
    split
    · exact pow_lt6 hc
    · omega
theorem rchO_b {s : Int → Int} {p : Int} {set : Nat} (hs : set < 64) : ∀ c : Nat, c ≤ 6 → rchO s p set c < 64
  | 0, _ => hs
  | c + 1, h => by
    unfold rchO
    split
    · exact rchI_b (by omega) 6 (rchO_b hs c (by omega))
    · exact rchO_b hs c (by omega)
theorem rchs_b {s : Int → Int} {p : Int} (h : 0 ≤ s (103 * p + 2) ∧ s (103 * p + 2) ≤ 5) : ∀ k : Nat, rchs s p k < 64
  | 0 => pow_lt6 (by omega)
  | k + 1 => rchO_b (rchs_b h k) 6 (by omega)
theorem misN_b {s : Int → Int} : ∀ k : Nat, k ≤ 6 → misN s k < 64
  | 0, _ => by show 0 < 64; omega
  | k + 1, h => by
    unfold misN
    refine or_lt (misN_b k (by omega)) ?_
    split
    · exact pow_lt6 (by omega)
    · omega
theorem hldN_b {s : Int → Int} {c t : Int} : ∀ k : Nat, k ≤ 6 → hldN s c t k < 64
  | 0, _ => by show 0 < 64; omega
  | k + 1, h => by
    unfold hldN
    exact or_lt (hldN_b k (by omega)) (ifpow_lt (by omega))
theorem iI_shl1n {k : Nat} (h : k < 31) : iI 1 <<< (iI (k : Int) &&& 31) = iI ((2 ^ k : Nat) : Int) := by
  have := iI_shl1 (z := (k : Int)) (by omega)
  rwa [Int.toNat_natCast] at this
theorem iI_shrn {a k : Nat} (ha : a < 2147483648) (h : k < 31) : iI (a : Int) >>> (iI (k : Int) &&& 31) = iI ((a / 2 ^ k : Nat) : Int) := by
  have := iI_shr (a := a) (z := (k : Int)) ha (by omega)
  rwa [Int.toNat_natCast] at this
theorem bit_1 (n k : Nat) : ((n / 2 ^ k &&& 1 : Nat) : Int) = bI (n.testBit k = true) := by
  rw [shr1]; unfold bI; split <;> rfl
