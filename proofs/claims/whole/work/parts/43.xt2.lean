/-- one digit, 0 to 5 -/
def d5 (tx : Int → Int) (ln sp : Int) : Int := if nxt tx ln sp 0 48 53 then tx sp - 48 else -1
theorem d5_b {tx : Int → Int} {ln sp : Int} : -1 ≤ d5 tx ln sp ∧ d5 tx ln sp ≤ 5 := by
  unfold d5; split
  · next h => have := h.2.2; omega
  · omega
theorem d5_y {tx : Int → Int} {ln sp : Int} (h : d5 tx ln sp ≠ -1) : nxt tx ln sp 0 48 53 := by
  apply Classical.byContradiction
  intro q
  exact h (if_neg q)
theorem d5_n {tx : Int → Int} {ln sp : Int} (h : d5 tx ln sp = -1) : ¬ nxt tx ln sp 0 48 53 := fun q => by
  have e : d5 tx ln sp = tx sp - 48 := if_pos q
  have := q.2.2
  omega
theorem rn5 {tx : Int → Int} {ln sp : Int} : rn tx ln sp 0 5 = (d5 tx ln sp, sp + bI (nxt tx ln sp 0 48 53)) := by
  unfold rn
  by_cases q : nxt tx ln sp 0 48 53
  · have h1 : nxt tx ln sp 0 48 57 := ⟨rfl, q.2.1, q.2.2.1, by have := q.2.2.2; omega⟩
    have hd : dgt tx ln sp = tx sp - 48 := if_pos h1
    have h5 : d5 tx ln sp = tx sp - 48 := if_pos q
    have hb := q.2.2
    rw [if_pos (by omega), nmL_stop (fun w => by have := w.2.1.2.2; omega), bI_t q, hd, h5]
  · have h5 : d5 tx ln sp = -1 := if_neg q
    have hn : ¬ (0 ≤ dgt tx ln sp ∧ dgt tx ln sp ≤ 5) := fun w => by
      have h1 := dgt_n (tx := tx) (ln := ln) (sp := sp) (by omega)
      have hd : dgt tx ln sp = tx sp - 48 := if_pos h1
      exact q ⟨rfl, h1.2.1, by omega, by omega⟩
    rw [if_neg hn, bI_f q, h5, Int.add_zero]
