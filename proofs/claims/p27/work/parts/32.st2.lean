def cpH (c2 c : HC) : HC := (c2.1, c2.2.1, c2.2.2.1, cp0 c2.2.2.2.1 c.2.2.2.1 (hcj c2 + 1), cp0 c2.2.2.2.2.1 c.2.2.2.2.1 (hcj c2 + 1), hcj c2, cp0 c2.2.2.2.2.2.2.1 c.2.2.2.2.2.2.1 (hcb c2 + 1), cp0 c2.2.2.2.2.2.2.2.1 c.2.2.2.2.2.2.2.1 (hcb c2 + 1), hcb c2, cp0 c2.2.2.2.2.2.2.2.2.2.1 c.2.2.2.2.2.2.2.2.2.1 16, mixR 6 (hcv c2) (hcv c))
/-- the first rows of holders copied -/
def cpC (C2 C : Nat → HC) (k : Nat) : Nat → HC := fun i => if i < k then cpH (C2 i) (C i) else C i
theorem cpC_0 (C2 C : Nat → HC) : cpC C2 C 0 = C := by funext i; unfold cpC; rw [if_neg (by omega)]
theorem cpC_i (C2 C : Nat → HC) (i : Nat) : cpC C2 C i i = C i := if_neg (by omega)
theorem cpC_s (C2 C : Nat → HC) (i : Nat) : upC (cpC C2 C i) i (cpH (C2 i) (C i)) = cpC C2 C (i + 1) := by
  funext j
  unfold upC cpC
  by_cases hj : j = i
  · rw [if_pos hj, if_pos (by omega), hj]
  · rw [if_neg hj]
    by_cases h2 : j < i
    · rw [if_pos h2, if_pos (by omega)]
    · rw [if_neg h2, if_neg (by omega)]
/-- the class's borders tell the reference's -/
def CloR (s : Int → Int) (cl : Int64) : Prop := ∀ a b : Int, 0 ≤ a ∧ a ≤ 5 → 0 ≤ b ∧ b ≤ 5 → a ≠ b → (cl &&& brd a b = 0 ↔ isOpen s a b)
theorem hbs_in {t i : Nat} (h : i < 6) : t + 2 ≤ hbs t i ∧ hbs t i + 10 ≤ t + 62 := by unfold hbs; omega
