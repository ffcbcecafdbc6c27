theorem told_b (s : Int → Int) (p c x w t : Int) (hx : 0 ≤ x) (ht : t ≤ 999) : 0 ≤ toldDays s p c x w t ∧ toldDays s p c x w t ≤ 999 := by
  have := sumI_le (f := fun i => bI (trAt (bD s p) (bP s p) (s (103 * p + 8)) (x + i) = c)) (fun i => by have := bI_01 (trAt (bD s p) (bP s p) (s (103 * p + 8)) (x + i) = c); omega) (min (w + 1) t - x).toNat
  unfold toldDays daysOn
  omega
def nulP (vs : Int → Option Nat) (i : Nat) : Int → Option Nat := fun j => if 0 ≤ j ∧ j < i then none else vs j
theorem nulP_0 (vs : Int → Option Nat) : nulP vs 0 = vs := by funext j; unfold nulP; rw [if_neg (by omega)]
theorem nulP_s (vs : Int → Option Nat) (i : Nat) : upR (nulP vs i) i none = nulP vs (i + 1) := by
  funext j
  unfold upR nulP
  by_cases hj : j = i
  · rw [if_pos hj, if_pos (by omega)]
  · rw [if_neg hj]
    by_cases h2 : 0 ≤ j ∧ j < i
    · rw [if_pos h2, if_pos (by omega)]
    · rw [if_neg h2, if_neg (by omega)]
def mixR (i : Nat) (f h : Int → Option Nat) : Int → Option Nat := fun j => if 0 ≤ j ∧ j < i then f j else h j
theorem mixR_0 (f h : Int → Option Nat) : mixR 0 f h = h := by funext j; unfold mixR; rw [if_neg (by omega)]
theorem mixR_s (f h : Int → Option Nat) (i : Nat) : upR (mixR i f h) i (f i) = mixR (i + 1) f h := by
  funext j
  unfold upR mixR
  by_cases hj : j = i
  · rw [if_pos hj, if_pos (by omega), hj]
  · rw [if_neg hj]
    by_cases h2 : 0 ≤ j ∧ j < i
    · rw [if_pos h2, if_pos (by omega)]
    · rw [if_neg h2, if_neg (by omega)]
theorem ho_ho {E : Ev} {M : Mem} {h : Nat} {hm os nb hm' os' nb' : Int} {jd jp bd bp bc jd' jp' bd' bp' bc' : Int → Int} {jk bk jk' bk' : Int} {vs vs' : Int → Option Nat} : hoU E (hoU E M h hm os nb jd jp jk bd bp bk bc vs) h hm' os' nb' jd' jp' jk' bd' bp' bk' bc' vs' = hoU E M h hm' os' nb' jd' jp' jk' bd' bp' bk' bc' vs' := ov_ov
