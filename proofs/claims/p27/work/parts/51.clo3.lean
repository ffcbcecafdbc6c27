/-! the borders as a long: its bits -/
def slim (k : Nat) : Nat := if k < 15 then spos k else 30
theorem spos_up : ∀ k : Nat, k < 15 → spos k < slim (k + 1) := by decide +kernel
theorem spos_inj : ∀ j : Nat, j < 15 → ∀ k : Nat, k < 15 → spos j = spos k → j = k := by decide +kernel
theorem spos_lt : ∀ k : Nat, k < 15 → ∀ j : Nat, j < k → spos j < spos k := by decide +kernel
theorem slim_e {k : Nat} (h : k < 15) : slim k = spos k := if_pos h
theorem spr_lt (n : Nat) : ∀ k : Nat, k ≤ 15 → spr n k < 2 ^ slim k
  | 0, _ => by show 0 < _; exact Nat.two_pow_pos _
  | k + 1, h => by
    have h1 := spr_lt n k (by omega)
    rw [slim_e (by omega)] at h1
    have h2 : 2 ^ (spos k + 1) ≤ 2 ^ slim (k + 1) := Nat.pow_le_pow_right (by decide) (spos_up k (by omega))
    rw [Nat.pow_succ] at h2
    unfold spr
    split <;> omega
theorem spr_off (n : Nat) {i : Nat} : ∀ k : Nat, k ≤ 15 → (∀ j, j < k → spos j ≠ i) → (spr n k).testBit i = false
  | 0, _, _ => by show Nat.testBit 0 i = false; simp
  | k + 1, h, hh => by
    have ih := spr_off n k (by omega) (fun j hj => hh j (by omega))
    have h1 := spr_lt n k (by omega)
    rw [slim_e (by omega)] at h1
    have hk := hh k (by omega)
    unfold spr
    split
    · rw [Nat.add_comm]
      by_cases q : i < spos k
      · rw [Nat.testBit_two_pow_add_gt q]; exact ih
      · refine Nat.testBit_lt_two_pow (Nat.lt_of_lt_of_le (m := 2 ^ (spos k + 1)) (by rw [Nat.pow_succ]; omega) (Nat.pow_le_pow_right (by decide) (by omega)))
    · exact ih
theorem spr_at (n : Nat) : ∀ k : Nat, k ≤ 15 → ∀ j, j < k → (spr n k).testBit (spos j) = n.testBit j
  | 0, _, _, hj => absurd hj (by omega)
  | k + 1, h, j, hj => by
    have h1 := spr_lt n k (by omega)
    rw [slim_e (by omega)] at h1
    have hf : (spr n k).testBit (spos k) = false := Nat.testBit_lt_two_pow h1
    by_cases q : j = k
    · subst q
      unfold spr
      split
      · next hb => rw [Nat.add_comm, Nat.testBit_two_pow_add_eq, hf, hb]; rfl
      · next hb => rw [Nat.add_zero, hf]; cases e : n.testBit j
                   · rfl
                   · exact absurd e hb
    · have ih := spr_at n k (by omega) j (by omega)
      unfold spr
      split
      · rw [Nat.add_comm, Nat.testBit_two_pow_add_gt (spos_lt k (by omega) j (by omega))]; exact ih
      · exact ih
theorem spr_xor (n : Nat) {k : Nat} (hk : k < 15) : spr (n ^^^ 2 ^ k) 15 = spr n 15 ^^^ 2 ^ spos k := by
  apply Nat.eq_of_testBit_eq
  intro i
  rw [Nat.testBit_xor, Nat.testBit_two_pow]
  by_cases h : ∃ j, j < 15 ∧ spos j = i
  · obtain ⟨j, hj, rfl⟩ := h
    rw [spr_at _ 15 (Nat.le_refl _) j hj, spr_at _ 15 (Nat.le_refl _) j hj, Nat.testBit_xor, Nat.testBit_two_pow]
    congr 1
    by_cases q : k = j
    · subst q; simp
    · rw [decide_eq_false q, decide_eq_false (fun w => q (spos_inj k hk j hj w))]
  · rw [spr_off _ 15 (Nat.le_refl _) (fun j hj w => h ⟨j, hj, w⟩), spr_off _ 15 (Nat.le_refl _) (fun j hj w => h ⟨j, hj, w⟩), decide_eq_false (fun w => h ⟨k, hk, w⟩)]
    rfl
theorem i64_xor (a b : Nat) : Int64.ofNat (a ^^^ b) = Int64.ofNat a ^^^ Int64.ofNat b := Int64.toBitVec_inj.1 BitVec.ofNat_xor
theorem i64_and (a b : Nat) : Int64.ofNat (a &&& b) = Int64.ofNat a &&& Int64.ofNat b := Int64.toBitVec_inj.1 BitVec.ofNat_and
theorem i64_z {x : Nat} (h : x < 2 ^ 63) : Int64.ofNat x = 0 ↔ x = 0 := by
  constructor
  · intro e
    have e2 : BitVec.ofNat 64 x = BitVec.ofNat 64 0 := congrArg Int64.toBitVec e
    have e3 := congrArg BitVec.toNat e2
    rw [BitVec.toNat_ofNat, BitVec.toNat_ofNat] at e3
    omega
  · rintro rfl; rfl
theorem brd_spos {a b : Int} (ha : 0 ≤ a ∧ a ≤ 5) (hb : 0 ≤ b ∧ b ≤ 5) (hn : a ≠ b) : brd a b = Int64.ofNat (2 ^ spos (bitOf a b).toNat) := by
  obtain ⟨x, rfl⟩ : ∃ x : Nat, a = x := ⟨a.toNat, by omega⟩
  obtain ⟨y, rfl⟩ : ∃ y : Nat, b = y := ⟨b.toNat, by omega⟩
  exact (show ∀ x : Nat, x < 6 → ∀ y : Nat, y < 6 → (x : Int) ≠ y → brd x y = Int64.ofNat (2 ^ spos (bitOf x y).toNat) by decide +kernel) x (by omega) y (by omega) hn
theorem clOf_and (n : Nat) {k : Nat} (hk : k < 15) : clOf n &&& Int64.ofNat (2 ^ spos k) = 0 ↔ n.testBit k = false := by
  have h1 := spr_lt n 15 (Nat.le_refl _)
  have h2 : spr n 15 &&& 2 ^ spos k ≤ spr n 15 := Nat.and_le_left
  have h3 : (2 : Nat) ^ slim 15 ≤ 2 ^ 63 := Nat.pow_le_pow_right (by decide) (by decide)
  unfold clOf
  rw [← i64_and, i64_z (by omega), ← spr_at n 15 (Nat.le_refl _) k hk]
  constructor
  · intro e; exact tb_0 (by rw [e]; rfl)
  · intro e
    apply Classical.byContradiction
    intro w
    have := tb_1 (S := spr n 15) (k := spos k) (by omega)
    rw [e] at this
    exact absurd this (by decide)
theorem CloR_of {s : Int → Int} : CloR s (clOf (s 620).toNat) := fun a b ha hb hn => by
  have h := bitOf_b ha hb hn
  rw [brd_spos ha hb hn]
  exact clOf_and _ (by omega)
theorem clOf_flip {s : Int → Int} {a b : Int} (ha : 0 ≤ a ∧ a ≤ 5) (hb : 0 ≤ b ∧ b ≤ 5) (hn : a ≠ b) : clOf (turnS s a b 620).toNat = clOf (s 620).toNat ^^^ brd a b := by
  have h := bitOf_b ha hb hn
  have e : turnS s a b 620 = (((s 620).toNat ^^^ 2 ^ (bitOf a b).toNat : Nat) : Int) := upI_s _ _ _
  rw [e, Int.toNat_natCast, brd_spos ha hb hn]
  unfold clOf
  rw [spr_xor _ (by omega), i64_xor]
