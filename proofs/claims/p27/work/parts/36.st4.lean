theorem up_s {M : Mem} {a : Nat} {e : va_E} : va_up M a e a = e := if_pos rfl
theorem st_up {E : Ev} {M : Mem} {t q : Nat} {dy iss fg : Int} {cl : Int64} {C : Nat → HC} {e : va_E} (h : q < t ∨ t + 62 ≤ q) : va_up (stU E M t dy iss fg cl C) q e = stU E (va_up M q e) t dy iss fg cl C := by
  funext r
  by_cases hr : r = q
  · subst hr
    exact up_s.trans ((ov_n h).trans up_s).symm
  · have e1 : va_up (stU E M t dy iss fg cl C) q e r = stU E M t dy iss fg cl C r := if_neg hr
    rw [e1]
    by_cases hi : t ≤ r ∧ r < t + 62
    · have a1 : stU E M t dy iss fg cl C r = sC E t dy iss fg cl C (r - t) := if_pos hi
      have a2 : stU E (va_up M q e) t dy iss fg cl C r = sC E t dy iss fg cl C (r - t) := if_pos hi
      rw [a1, a2]
    · have a1 : stU E M t dy iss fg cl C r = M r := if_neg hi
      have a2 : stU E (va_up M q e) t dy iss fg cl C r = va_up M q e r := if_neg hi
      have a3 : va_up M q e r = M r := if_neg hr
      rw [a1, a2, a3]
