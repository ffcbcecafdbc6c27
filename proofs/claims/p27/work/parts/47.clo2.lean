theorem popc_sum (n : Nat) : ∀ k : Nat, sumI (fun i => bI (n.testBit i.toNat = true)) k = (popc n k : Nat)
  | 0 => rfl
  | k + 1 => by
    rw [sumI_s, popc_sum n k, popc]
    show _ + bI (n.testBit k = true) = _
    by_cases h : n.testBit k = true
    · rw [bI_t h, if_pos h]; omega
    · rw [bI_f h, if_neg h]; omega
theorem closed_popc (s : Int → Int) : closedN s = (popc (s 620).toNat 15 : Nat) := popc_sum _ 15
theorem popc_b (n : Nat) : ∀ k : Nat, popc n k ≤ k
  | 0 => Nat.le_refl 0
  | k + 1 => by
    have := popc_b n k
    unfold popc
    split <;> omega
theorem lbc_closed {s : Int → Int} (h : 0 ≤ s 620 ∧ s 620 < 32768) : lbc (clOf (s 620).toNat) = iI (closedN s) := by
  rw [pop_all (by omega), closed_popc]
  have := popc_b (s 620).toNat 15
  exact (iI_nat _).symm
