/-! WHAT THE ACTS DO to a state's numbers, as the reference does it -/
theorem up_up {M : Mem} {a : Nat} {x y : va_E} : va_up (va_up M a x) a y = va_up M a y := by
  funext q; unfold va_up; split <;> rfl
theorem MS.up {E : Ev} {M : Mem} {m : Nat} {s : Int → Int} (h : MS E M m s) (s' : Int → Int) : MS E (va_up M (m + 1) (ia E 622 s')) m s' := by
  obtain ⟨⟨r, h1⟩, h2⟩ := h
  exact ⟨⟨r, by rw [va_up_ne _ _ (by omega)]; exact h1⟩, va_up_self _ _ _⟩
def stampS (s : Int → Int) (p c e : Int) : Int → Int := upI (upI s (103 * p + (9 + s (103 * p + 8))) (12 * s 618 + 2 * c + e)) (103 * p + 8) (upI s (103 * p + (9 + s (103 * p + 8))) (12 * s 618 + 2 * c + e) (103 * p + 8) + 1)
def crossA (s : Int → Int) (p f : Int) : Int → Int := if f % 2 = 0 then stampS s p (s (103 * p + 2)) 0 else s
def crossB (s : Int → Int) (p c f : Int) : Int → Int := if f < 2 then stampS (crossA s p f) p c 1 else crossA s p f
def crossC (s : Int → Int) (p c f : Int) : Int → Int := upI (crossB s p c f) 621 (crossB s p c f 621 + (f % 2 + f / 2))
def crossD (s : Int → Int) (p c f : Int) : Int → Int := upI (crossC s p c f) (103 * p + (43 + crossC s p c f (103 * p + 3))) (6 * crossC s p c f 618 + c)
def crossE (s : Int → Int) (p c f : Int) : Int → Int := upI (crossD s p c f) (103 * p + 3) (crossD s p c f (103 * p + 3) + 1)
def crossS (s : Int → Int) (p c f : Int) : Int → Int := upI (crossE s p c f) (103 * p + 2) c
abbrev isOver (s : Int → Int) (p : Int) : Prop := s (103 * p + 2) ≠ s (103 * p + 0) ∧ ¬ (validOn s p (s (103 * p + 2)) (s 618) ∧ usedOn s p (s (103 * p + 2)) (s 618) < vOf s p (s (103 * p + 2)) 2)
def overS (s : Int → Int) : Nat → Int → Int
  | 0 => s
  | k + 1 => upI (overS s k) (103 * (k : Int) + 4) (overS s k (103 * (k : Int) + 4) + bI (isOver (overS s k) k))
def overN (s : Int → Int) : Nat → Int
  | 0 => 0
  | k + 1 => overN s k + bI (isOver (overS s k) k)
def dayS (s : Int → Int) : Int → Int := upI (overS s (s 619).toNat) 618 (overS s (s 619).toNat 618 + 1)
def daysS (s : Int → Int) : Nat → Int → Int
  | 0 => s
  | k + 1 => dayS (daysS s k)
def daysN (s : Int → Int) : Nat → Int
  | 0 => 0
  | k + 1 => daysN s k + overN (daysS s k) (daysS s k 619).toNat
def grantS (s : Int → Int) (p c a u d : Int) : Int → Int := upI (upI (upI s (103 * p + (25 + 3 * c)) a) (103 * p + (25 + 3 * c) + 1) u) (103 * p + (25 + 3 * c) + 2) d
def beginS (s : Int → Int) (p c : Int) : Int → Int := upI (upI (upI (upI s (103 * p + 6) c) (103 * p + 7) (upI s (103 * p + 6) c 618)) (103 * p + 8) 0) (103 * p + 5) (upI (upI (upI s (103 * p + 6) c) (103 * p + 7) (upI s (103 * p + 6) c 618)) (103 * p + 8) 0 (103 * p + 5) + 1)
def zeroS (s : Int → Int) (p : Int) : Nat → Int → Int
  | 0 => s
  | k + 1 => upI (zeroS s p k) (103 * p + (k : Int)) 0
def issueA (s : Int → Int) : Int → Int := zeroS (upI s 619 (s 619 + 1)) (s 619) 103
def issueB (s : Int → Int) (h : Int) : Int → Int := upI (issueA s) (103 * s 619 + 0) h
def issueC (s : Int → Int) (h : Int) : Int → Int := upI (issueB s h) (103 * s 619 + 1) (issueB s h 618)
def issueD (s : Int → Int) (h : Int) : Int → Int := upI (issueC s h) (103 * s 619 + 2) h
def issueS (s : Int → Int) (h : Int) : Int → Int := beginS (issueD s h) (s 619) h
def turnS (s : Int → Int) (a b : Int) : Int → Int := upI s 620 (((s 620).toNat ^^^ 2 ^ (bitOf a b).toNat : Nat) : Int)
def revokeS (s : Int → Int) (p c : Int) : Int → Int := upI s (103 * p + (25 + 3 * c + 2)) 0
def closedN (s : Int → Int) : Int := sumI (fun i => bI ((s 620).toNat.testBit i.toNat = true)) 15
/-- the errors of the acts -/
def errCross (s : Int → Int) (p c f : Int) : Int := if ¬ ((0 ≤ p ∧ p ≤ s 619 - 1) ∧ (0 ≤ c ∧ c ≤ 5)) then -1 else if ¬ (0 ≤ f ∧ f ≤ 3) then -2 else if 0 < hindr s p c (2 - f % 2 - f / 2) then -10 - hindr s p c (2 - f % 2 - f / 2) else 0
def errPass (s : Int → Int) (d : Int) : Int := if ¬ (1 ≤ d ∧ d ≤ 99) then -2 else if 999 < s 618 + d then -3 else 0
def errGrant (s : Int → Int) (p c a u d : Int) : Int := if ¬ ((0 ≤ p ∧ p ≤ s 619 - 1) ∧ (0 ≤ c ∧ c ≤ 5)) then -1 else if ¬ (((0 ≤ a ∧ a ≤ 999) ∧ (a ≤ u ∧ u ≤ 999)) ∧ (1 ≤ d ∧ d ≤ 99)) then -2 else if s (103 * p + 0) = c then -4 else 0
theorem hindr_b (s : Int → Int) (p c k : Int) : 0 ≤ hindr s p c k ∧ hindr s p c k ≤ 6 := by
  unfold hindr
  repeat' split
  all_goals omega
/-! what the acts leave alone -/
theorem stampS_n {s : Int → Int} {p c e j : Int} (h1 : j ≠ 103 * p + 8) (h2 : j ≠ 103 * p + (9 + s (103 * p + 8))) : stampS s p c e j = s j := by
  unfold stampS; rw [upI_n _ _ h1, upI_n _ _ h2]
theorem stampS_8 {s : Int → Int} {p c e : Int} (h : 0 ≤ s (103 * p + 8)) : stampS s p c e (103 * p + 8) = s (103 * p + 8) + 1 := by
  unfold stampS; rw [upI_s, upI_n _ _ (by omega)]
theorem stampS_v {s : Int → Int} {p c e : Int} (h : 0 ≤ s (103 * p + 8)) : stampS s p c e (103 * p + (9 + s (103 * p + 8))) = 12 * s 618 + 2 * c + e := by
  unfold stampS; rw [upI_n _ _ (by omega), upI_s]
