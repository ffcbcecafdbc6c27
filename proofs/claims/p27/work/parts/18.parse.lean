/-! HOW A TEXT IS READ, as the reference reads it: from a place, with a mark whether something was wrong -/
abbrev nxt (tx : Int → Int) (ln sp wr lo hi : Int) : Prop := wr = 0 ∧ (sp < ln ∧ (lo ≤ tx sp ∧ tx sp ≤ hi))
def tkV (tx : Int → Int) (ln sp wr lo hi : Int) : Int := if nxt tx ln sp wr lo hi then tx sp - lo else 0
def tkS (tx : Int → Int) (ln sp wr lo hi : Int) : Int := sp + bI (nxt tx ln sp wr lo hi)
def tkW (tx : Int → Int) (ln sp wr lo hi : Int) : Int := bI (¬ nxt tx ln sp wr lo hi)
def nmL (tx : Int → Int) (ln most : Int) : Nat → Int → Int → Int × Int
  | 0, v, sp => (v, sp)
  | k + 1, v, sp => if 0 < v ∧ nxt tx ln sp 0 48 57 ∧ 10 * v + tx sp - 48 ≤ most then nmL tx ln most k (10 * v + tx sp - 48) (sp + 1) else (v, sp)
/-- a number: its value, where the reading stands then, whether something is wrong -/
def nm (tx : Int → Int) (ln sp wr least most : Int) : Int × Int × Int :=
  if nxt tx ln sp wr (48 + least) 57 then ((nmL tx ln most 61 (least + (tx sp - (48 + least))) (sp + 1)).1, (nmL tx ln most 61 (least + (tx sp - (48 + least))) (sp + 1)).2, 0) else (least + 0, sp, 1)
section
variable (tx : Int → Int) (ln sp : Int)
def oL : Int := if sp < ln then tx sp else 0
def oW : Int := bI (¬ (oL tx ln sp = 120 ∨ oL tx ln sp = 118 ∨ oL tx ln sp = 46))
def oS : Int := sp + (1 - oW tx ln sp)
def o1s : Int := tkS tx ln (oS tx ln sp) (oW tx ln sp) 48 53
def o1w : Int := tkW tx ln (oS tx ln sp) (oW tx ln sp) 48 53
def o1v : Int := tkV tx ln (oS tx ln sp) (oW tx ln sp) 48 53
def o2s : Int := tkS tx ln (o1s tx ln sp) (o1w tx ln sp) 48 53
def o2w : Int := tkW tx ln (o1s tx ln sp) (o1w tx ln sp) 48 53
def o2v : Int := tkV tx ln (o1s tx ln sp) (o1w tx ln sp) 48 53
def ocA : Int := bI (nxt tx ln (o2s tx ln sp) (o2w tx ln sp) 33 33)
def ocS : Int := o2s tx ln sp + ocA tx ln sp
def ocB : Int := bI (nxt tx ln (ocS tx ln sp) (o2w tx ln sp) 63 63)
def ocT : Int := ocS tx ln sp + ocB tx ln sp
end
/-- a visa's rest, behind passport and country -/
def vs1 (tx : Int → Int) (ln sp wr : Int) : Int × Int × Int := nm tx ln (tkS tx ln sp wr 58 58) (tkW tx ln sp wr 58 58) 0 999
def vs2 (tx : Int → Int) (ln sp wr : Int) : Int × Int × Int := nm tx ln (tkS tx ln (vs1 tx ln sp wr).2.1 (vs1 tx ln sp wr).2.2 45 45) (tkW tx ln (vs1 tx ln sp wr).2.1 (vs1 tx ln sp wr).2.2 45 45) 0 999
def vs3 (tx : Int → Int) (ln sp wr : Int) : Int × Int × Int := nm tx ln (tkS tx ln (vs2 tx ln sp wr).2.1 (vs2 tx ln sp wr).2.2 42 42) (tkW tx ln (vs2 tx ln sp wr).2.1 (vs2 tx ln sp wr).2.2 42 42) 1 99
/-- one thing: where the reading stands then, whether something is wrong, letter and numbers (those that it has not told stay) -/
abbrev TH : Type := Int × Int × Int × Int × Int × Int × Int × Int
def rd1 (tx : Int → Int) (ln sp f1 f2 f3 f4 f5 : Int) : TH :=
  if oL tx ln sp = 46 then ((nm tx ln (oS tx ln sp) (oW tx ln sp) 1 99).2.1, (nm tx ln (oS tx ln sp) (oW tx ln sp) 1 99).2.2, oL tx ln sp, (nm tx ln (oS tx ln sp) (oW tx ln sp) 1 99).1, f2, f3, f4, f5)
  else if oL tx ln sp = 118 then ((vs3 tx ln (o2s tx ln sp) (o2w tx ln sp)).2.1, (vs3 tx ln (o2s tx ln sp) (o2w tx ln sp)).2.2, oL tx ln sp, o1v tx ln sp, o2v tx ln sp, (vs1 tx ln (o2s tx ln sp) (o2w tx ln sp)).1, (vs2 tx ln (o2s tx ln sp) (o2w tx ln sp)).1, (vs3 tx ln (o2s tx ln sp) (o2w tx ln sp)).1)
  else (ocT tx ln sp, o2w tx ln sp, oL tx ln sp, o1v tx ln sp, o2v tx ln sp, ocA tx ln sp + 2 * ocB tx ln sp, f4, f5)
/-- bounds -/
def txB (tx : Int → Int) (ln : Int) : Prop := (0 ≤ ln ∧ ln ≤ 60) ∧ ∀ j, 0 ≤ j → j < ln → 0 ≤ tx j ∧ tx j ≤ 65535
theorem tkS_b {tx : Int → Int} {ln sp wr lo hi : Int} (h : 0 ≤ sp ∧ sp ≤ ln) : 0 ≤ tkS tx ln sp wr lo hi ∧ tkS tx ln sp wr lo hi ≤ ln ∧ sp ≤ tkS tx ln sp wr lo hi := by
  unfold tkS bI
  split <;> omega
theorem tkW_b {tx : Int → Int} {ln sp wr lo hi : Int} : tkW tx ln sp wr lo hi = 0 ∨ tkW tx ln sp wr lo hi = 1 := bI_01 _
theorem nmL_b {tx : Int → Int} {ln most : Int} : ∀ (k : Nat) {v sp : Int}, (0 ≤ sp ∧ sp ≤ ln) → (0 ≤ v ∧ v ≤ most) → (0 ≤ (nmL tx ln most k v sp).2 ∧ (nmL tx ln most k v sp).2 ≤ ln ∧ sp ≤ (nmL tx ln most k v sp).2) ∧ (0 ≤ (nmL tx ln most k v sp).1 ∧ (nmL tx ln most k v sp).1 ≤ most ∧ v ≤ (nmL tx ln most k v sp).1)
  | 0, v, sp, h, h2 => by simp [nmL]; omega
  | k + 1, v, sp, h, h2 => by
    unfold nmL
    split
    · have := nmL_b (tx := tx) (ln := ln) (most := most) k (v := 10 * v + tx sp - 48) (sp := sp + 1) (by omega) (by omega)
      omega
    · simp; omega
theorem nm_b {tx : Int → Int} {ln sp wr least most : Int} (h : 0 ≤ sp ∧ sp ≤ ln) (hl : 0 ≤ least ∧ least ≤ 9 ∧ 9 ≤ most) : (0 ≤ (nm tx ln sp wr least most).2.1 ∧ (nm tx ln sp wr least most).2.1 ≤ ln ∧ sp ≤ (nm tx ln sp wr least most).2.1) ∧ ((nm tx ln sp wr least most).2.2 = 0 ∨ (nm tx ln sp wr least most).2.2 = 1) ∧ (least ≤ (nm tx ln sp wr least most).1 ∧ (nm tx ln sp wr least most).1 ≤ most) := by
  unfold nm
  split
  · have := nmL_b (tx := tx) (ln := ln) (most := most) 61 (v := least + (tx sp - (48 + least))) (sp := sp + 1) (by omega) (by omega)
    refine ⟨?_, Or.inl rfl, ?_⟩ <;> simp <;> omega
  · refine ⟨?_, Or.inr rfl, ?_⟩ <;> simp <;> omega
theorem nmNo {tx : Int → Int} {ln sp wr least most : Int} (h : ¬ nxt tx ln sp wr (48 + least) 57) : nm tx ln sp wr least most = (least + 0, sp, 1) := if_neg h
theorem nmYes {tx : Int → Int} {ln sp wr least most : Int} (h : nxt tx ln sp wr (48 + least) 57) : nm tx ln sp wr least most = ((nmL tx ln most 61 (least + (tx sp - (48 + least))) (sp + 1)).1, (nmL tx ln most 61 (least + (tx sp - (48 + least))) (sp + 1)).2, 0) := if_pos h
theorem oW_01 (tx : Int → Int) (ln sp : Int) : oW tx ln sp = 0 ∨ oW tx ln sp = 1 := bI_01 _
theorem oL_b {tx : Int → Int} {ln sp : Int} (ht : txB tx ln) (h : 0 ≤ sp) : 0 ≤ oL tx ln sp ∧ oL tx ln sp ≤ 65535 := by
  unfold oL
  split
  · exact ht.2 sp h (by assumption)
  · omega
theorem oS_b {tx : Int → Int} {ln sp : Int} (h : 0 ≤ sp ∧ sp ≤ ln) : 0 ≤ oS tx ln sp ∧ oS tx ln sp ≤ ln ∧ sp ≤ oS tx ln sp := by
  have e : oS tx ln sp = sp + (1 - oW tx ln sp) := rfl
  have hw : oW tx ln sp = bI (¬ (oL tx ln sp = 120 ∨ oL tx ln sp = 118 ∨ oL tx ln sp = 46)) := rfl
  by_cases hl : sp < ln
  · rcases oW_01 tx ln sp with q | q <;> omega
  · have : oL tx ln sp = 0 := if_neg hl
    rw [this, bI_t (by omega)] at hw
    omega
