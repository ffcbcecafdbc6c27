/-! A STATE of the class: its object, its holders -/
abbrev HC : Type := Int × Int × Int × (Int → Int) × (Int → Int) × Int × (Int → Int) × (Int → Int) × Int × (Int → Int) × (Int → Option Nat)
def hcC (E : Ev) (h : Nat) (c : HC) : Nat → va_E := hoC E h c.1 c.2.1 c.2.2.1 c.2.2.2.1 c.2.2.2.2.1 c.2.2.2.2.2.1 c.2.2.2.2.2.2.1 c.2.2.2.2.2.2.2.1 c.2.2.2.2.2.2.2.2.1 c.2.2.2.2.2.2.2.2.2.1 c.2.2.2.2.2.2.2.2.2.2
abbrev HcM (E : Ev) (M : Mem) (h : Nat) (c : HC) : Prop := HoM E M h c.1 c.2.1 c.2.2.1 c.2.2.2.1 c.2.2.2.2.1 c.2.2.2.2.2.1 c.2.2.2.2.2.2.1 c.2.2.2.2.2.2.2.1 c.2.2.2.2.2.2.2.2.1 c.2.2.2.2.2.2.2.2.2.1 c.2.2.2.2.2.2.2.2.2.2
abbrev HcR (s : Int → Int) (p : Int) (c : HC) : Prop := HolR s p c.1 c.2.1 c.2.2.1 c.2.2.2.1 c.2.2.2.2.1 c.2.2.2.2.2.1 c.2.2.2.2.2.2.1 c.2.2.2.2.2.2.2.1 c.2.2.2.2.2.2.2.2.1 c.2.2.2.2.2.2.2.2.2.1
abbrev hcv (c : HC) : Int → Option Nat := c.2.2.2.2.2.2.2.2.2.2
abbrev hcj (c : HC) : Int := c.2.2.2.2.2.1
abbrev hcb (c : HC) : Int := c.2.2.2.2.2.2.2.2.1
/-- where the holders stand -/
def hbs (t i : Nat) : Nat := t + (2 + 10 * i)
def hsF (t : Nat) : Int → Option Nat := fun i => some (hbs t i.toNat)
def sC (E : Ev) (t : Nat) (dy iss fg : Int) (cl : Int64) (C : Nat → HC) : Nat → va_E
  | 0 => .inr (2, [.int (iI dy), .int (iI iss), .int (iI fg), .long cl, .ref (t + 1)])
  | 1 => ra E 2 6 (hsF t)
  | r + 2 => hcC E (hbs t (r / 10)) (C (r / 10)) (r % 10)
abbrev StM (E : Ev) (M : Mem) (t : Nat) (dy iss fg : Int) (cl : Int64) (C : Nat → HC) : Prop := Bk M t 62 (sC E t dy iss fg cl C)
def stU (E : Ev) (M : Mem) (t : Nat) (dy iss fg : Int) (cl : Int64) (C : Nat → HC) : Mem := ov M t 62 (sC E t dy iss fg cl C)
def upC (C : Nat → HC) (i : Nat) (c : HC) : Nat → HC := fun j => if j = i then c else C j
section
variable {E : Ev} {M : Mem} {t i : Nat} {dy iss fg dy' iss' fg' : Int} {cl cl' : Int64} {C C' : Nat → HC} {c : HC}
theorem StM.h0 (h : StM E M t dy iss fg cl C) : M t = .inr (2, [.int (iI dy), .int (iI iss), .int (iI fg), .long cl, .ref (t + 1)]) := h 0 (by omega)
theorem StM.h1 (h : StM E M t dy iss fg cl C) : M (t + 1) = ra E 2 6 (hsF t) := h 1 (by omega)
theorem sC_h {j : Nat} (hj : j < 10) : sC E t dy iss fg cl C (2 + 10 * i + j) = hcC E (hbs t i) (C i) j := by
  rw [show 2 + 10 * i + j = (10 * i + j) + 2 by omega]
  show hcC E (hbs t ((10 * i + j) / 10)) (C ((10 * i + j) / 10)) ((10 * i + j) % 10) = _
  rw [show (10 * i + j) / 10 = i by omega, show (10 * i + j) % 10 = j by omega]
theorem StM.ho (h : StM E M t dy iss fg cl C) (hi : i < 6) : HcM E M (hbs t i) (C i) := Bk.sub h (by omega) (fun j hj => sC_h hj)
theorem st_M : StM E (stU E M t dy iss fg cl C) t dy iss fg cl C := ov_Bk
theorem st_id (h : StM E M t dy iss fg cl C) : stU E M t dy iss fg cl C = M := ov_id h
theorem st_u0 : va_up (stU E M t dy iss fg cl C) t (.inr (2, [.int (iI dy'), .int (iI iss'), .int (iI fg'), .long cl', .ref (t + 1)])) = stU E M t dy' iss' fg' cl' C := ov_up (k := 0) (by omega) rfl (fun j hj hn => by
  obtain _ | _ | r := j
  · exact absurd rfl hn
  · rfl
  · rfl)
theorem st_uh (hi : i < 6) : ov (stU E M t dy iss fg cl C) (hbs t i) 10 (hcC E (hbs t i) c) = stU E M t dy iss fg cl (upC C i c) := ov_sub (k := 2 + 10 * i) (by omega) (fun j hj => by rw [sC_h hj]; unfold upC; rw [if_pos rfl]) (fun j hj hn => by
  obtain _ | _ | r := j
  · rfl
  · rfl
  · show hcC E _ (upC C i c (r / 10)) _ = hcC E _ (C (r / 10)) _
    unfold upC; rw [if_neg (by omega)])
theorem upC_s : upC C i c i = c := if_pos rfl
theorem upC_n {j : Nat} (h : j ≠ i) : upC C i c j = C j := if_neg h
theorem st_st : stU E (stU E M t dy iss fg cl C) t dy' iss' fg' cl' C' = stU E M t dy' iss' fg' cl' C' := ov_ov
end
/-- the class's holder whom a number means -/
def holQ (t : Nat) (iss p : Int) : Option Nat := if 0 ≤ p ∧ p ≤ iss - 1 then some (hbs t p.toNat) else none
/-- what every row of holders keeps, issued or not -/
def RowsOk (C : Nat → HC) : Prop := ∀ i, i < 6 → (0 ≤ hcj (C i) ∧ hcj (C i) < 61) ∧ (0 ≤ hcb (C i) ∧ hcb (C i) < 17)
def brd (a b : Int) : Int64 := (1 : Int64) <<< ((iI (min a b * 6 + max a b)).toInt64 &&& 63)
def begC (c : HC) (h d : Int) : HC := (h, 0, 0 + 1, upI c.2.2.2.1 0 d, upI c.2.2.2.2.1 0 h, 0, upI c.2.2.2.2.2.2.1 0 d, upI c.2.2.2.2.2.2.2.1 0 h, 0, c.2.2.2.2.2.2.2.2.2.1, nulP (hcv c) 6)
def bokC (c : HC) (d : Int) : HC := (c.1, c.2.1, c.2.2.1 + 1, c.2.2.2.1, c.2.2.2.2.1, hcj c, upI c.2.2.2.2.2.2.1 0 d, upI c.2.2.2.2.2.2.2.1 0 (c.2.2.2.2.1 (hcj c)), 0, c.2.2.2.2.2.2.2.2.2.1, hcv c)
def visC (c : HC) (k : Int) (u : Option Nat) : HC := (c.1, c.2.1, c.2.2.1, c.2.2.2.1, c.2.2.2.2.1, hcj c, c.2.2.2.2.2.2.1, c.2.2.2.2.2.2.2.1, hcb c, c.2.2.2.2.2.2.2.2.2.1, upR (hcv c) k u)
/-- the class's state tells the reference's numbers, but for the borders -/
def StR (M : Mem) (s : Int → Int) (dy iss fg : Int) (C : Nat → HC) : Prop := (dy = s 618 ∧ iss = s 619 ∧ fg = s 621) ∧ RowsOk C ∧ ∀ i : Nat, (i : Int) < s 619 → HcR s i (C i) ∧ VisR M s i (hcv (C i))
theorem lcmp_nz {x : Int64} (h : ¬ x = 0) : (if (0 : Int64) < x then (1 : Int32) else if x = 0 then 0 else -1) = iI 1 ∨ (if (0 : Int64) < x then (1 : Int32) else if x = 0 then 0 else -1) = iI (-1) := by
  by_cases q : (0 : Int64) < x
  · left; rw [if_pos q]; decide
  · right; rw [if_neg q, if_neg h]; decide
theorem holQ_c (t : Nat) (iss p : Int) : (¬ (0 ≤ p ∧ p ≤ iss - 1) ∧ holQ t iss p = none) ∨ ∃ i : Nat, (i : Int) < iss ∧ p = i ∧ holQ t iss p = some (hbs t i) := by
  unfold holQ
  by_cases q : 0 ≤ p ∧ p ≤ iss - 1
  · right; exact ⟨p.toNat, by omega, by omega, if_pos q⟩
  · left; exact ⟨q, if_neg q⟩
theorem VisR.fr {M M' : Mem} {s : Int → Int} {p : Int} {vs : Int → Option Nat} (h : VisR M s p vs) (hf : ∀ k u, vs k = some u → M' u = M u) : VisR M' s p vs := fun c h0 h1 => by
  rcases h c h0 h1 with q | ⟨u, a, b, d⟩
  · exact Or.inl q
  · exact Or.inr ⟨u, a, (hf c u a).trans b, d⟩
def osC (c : HC) : HC := (c.1, c.2.1 + 1, c.2.2.1, c.2.2.2.1, c.2.2.2.2.1, hcj c, c.2.2.2.2.2.2.1, c.2.2.2.2.2.2.2.1, hcb c, c.2.2.2.2.2.2.2.2.2.1, hcv c)
/-- the first holders' overstays told -/
def ovC (s : Int → Int) (C : Nat → HC) : Nat → Nat → HC
  | 0 => C
  | k + 1 => if mayBe s k (s (103 * k + 2)) (s 618) then ovC s C k else upC (ovC s C k) k (osC (C k))
theorem ovC_n {s : Int → Int} {C : Nat → HC} : ∀ (k : Nat) {i : Nat}, k ≤ i → ovC s C k i = C i
  | 0, _, _ => rfl
  | k + 1, i, h => by
    unfold ovC
    split
    · exact ovC_n k (by omega)
    · rw [upC_n (by omega)]; exact ovC_n k (by omega)
theorem ovC_i {s : Int → Int} {C : Nat → HC} {i : Nat} : ovC s C i i = C i := ovC_n i (Nat.le_refl _)
theorem ovC_t {s : Int → Int} {C : Nat → HC} {i : Nat} (h : mayBe s i (s (103 * i + 2)) (s 618)) : ovC s C (i + 1) = ovC s C i := if_pos h
theorem ovC_f {s : Int → Int} {C : Nat → HC} {i : Nat} (h : ¬ mayBe s i (s (103 * i + 2)) (s 618)) : ovC s C (i + 1) = upC (ovC s C i) i (osC (C i)) := if_neg h
theorem ho_up1 {E : Ev} {M : Mem} {h : Nat} {c : HC} (q : HcM E M h c) : va_up M h (.inr (1, [.int (iI c.1), .int (iI (c.2.1 + 1)), .int (iI c.2.2.1), .ref (h + 1), .ref (h + 4), .ref (h + 9)])) = ov M h 10 (hcC E h (osC c)) := by
  have e : M = hoU E M h c.1 c.2.1 c.2.2.1 c.2.2.2.1 c.2.2.2.2.1 c.2.2.2.2.2.1 c.2.2.2.2.2.2.1 c.2.2.2.2.2.2.2.1 c.2.2.2.2.2.2.2.2.1 c.2.2.2.2.2.2.2.2.2.1 c.2.2.2.2.2.2.2.2.2.2 := (ho_id q).symm
  conv => lhs; rw [e]
  exact ho_u0
