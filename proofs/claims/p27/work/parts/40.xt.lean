/-! THE TEXT of the class: its object, its characters -/
def xtO (m : Nat) (ln th nx ki pa co fo fr un da : Int) : va_E := .inr (3, [.ref (m + 1), .int (iI ln), .int (iI th), .int (iI nx), .int (iI ki), .int (iI pa), .int (iI co), .int (iI fo), .int (iI fr), .int (iI un), .int (iI da)])
def xtC (E : Ev) (m : Nat) (tx : Int → Int) (ln th nx ki pa co fo fr un da : Int) : Nat → va_E
  | 0 => xtO m ln th nx ki pa co fo fr un da
  | _ => ca E 60 tx
def xtU (E : Ev) (M : Mem) (m : Nat) (tx : Int → Int) (ln th nx ki pa co fo fr un da : Int) : Mem := ov M m 2 (xtC E m tx ln th nx ki pa co fo fr un da)
section
variable {E : Ev} {M : Mem} {m : Nat} {tx tx' : Int → Int} {ln th nx ki pa co fo fr un da ln' th' nx' ki' pa' co' fo' fr' un' da' : Int}
theorem xt_0 : xtU E M m tx ln th nx ki pa co fo fr un da m = xtO m ln th nx ki pa co fo fr un da := ov_0 (by omega)
theorem xt_1 : xtU E M m tx ln th nx ki pa co fo fr un da (m + 1) = ca E 60 tx := ov_in (j := 1) (by omega)
theorem xt_u0 : va_up (xtU E M m tx ln th nx ki pa co fo fr un da) m (xtO m ln' th' nx' ki' pa' co' fo' fr' un' da') = xtU E M m tx ln' th' nx' ki' pa' co' fo' fr' un' da' := ov_up (k := 0) (by omega) rfl (fun j h h2 => by
  obtain _ | j := j
  · exact absurd rfl h2
  · rfl)
theorem xt_u1 : va_up (xtU E M m tx ln th nx ki pa co fo fr un da) (m + 1) (ca E 60 tx') = xtU E M m tx' ln th nx ki pa co fo fr un da := ov_up (k := 1) (by omega) rfl (fun j h h2 => by
  obtain _ | _ | j := j
  · rfl
  · exact absurd rfl h2
  · omega)
end
def dgt (tx : Int → Int) (ln sp : Int) : Int := if nxt tx ln sp 0 48 57 then tx sp - 48 else -1
theorem dgt_c (tx : Int → Int) (ln sp : Int) : (nxt tx ln sp 0 48 57 ∧ dgt tx ln sp = tx sp - 48) ∨ (¬ nxt tx ln sp 0 48 57 ∧ dgt tx ln sp = -1) := by
  by_cases h : nxt tx ln sp 0 48 57
  · exact Or.inl ⟨h, if_pos h⟩
  · exact Or.inr ⟨h, if_neg h⟩
/-- a number as the class reads it: -1 where none stands -/
def rn (tx : Int → Int) (ln sp least most : Int) : Int × Int := if least ≤ dgt tx ln sp ∧ dgt tx ln sp ≤ most then nmL tx ln most 61 (dgt tx ln sp) (sp + 1) else (-1, sp)
theorem rn_b {tx : Int → Int} {ln sp least most : Int} (h : 0 ≤ sp ∧ sp ≤ ln) (h1 : 0 ≤ least) : (0 ≤ (rn tx ln sp least most).2 ∧ (rn tx ln sp least most).2 ≤ ln) ∧ -1 ≤ (rn tx ln sp least most).1 ∧ ((rn tx ln sp least most).1 ≤ most ∨ (rn tx ln sp least most).1 = -1) := by
  unfold rn
  by_cases q : least ≤ dgt tx ln sp ∧ dgt tx ln sp ≤ most
  · rw [if_pos q]
    have hd := dgt_c tx ln sp
    have := nmL_b (tx := tx) (ln := ln) (most := most) 61 (v := dgt tx ln sp) (sp := sp + 1) (by omega) (by omega)
    exact ⟨⟨this.1.1, this.1.2.1⟩, by omega, Or.inl this.2.2.1⟩
  · rw [if_neg q]; exact ⟨h, by show (-1 : Int) ≤ -1; omega, Or.inr rfl⟩
theorem dgt_b {tx : Int → Int} {ln sp : Int} : -1 ≤ dgt tx ln sp ∧ dgt tx ln sp ≤ 9 := by
  rcases dgt_c tx ln sp with q | q
  · have := q.1.2.2; omega
  · omega
theorem dgt_n {tx : Int → Int} {ln sp : Int} (h : dgt tx ln sp ≠ -1) : nxt tx ln sp 0 48 57 := by
  rcases dgt_c tx ln sp with q | q
  · exact q.1
  · exact absurd q.2 h
