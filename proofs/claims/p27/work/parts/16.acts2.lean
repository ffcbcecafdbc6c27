/-! THE WHOLE of what is kept: the state, the history, how many, the snapshot, whether there is one, the text, its length, the latest stop -/
abbrev AS : Type := (Int → Int) × (Int → Int → Int) × Int × (Int → Int) × Int × (Int → Int) × Int × Int × Int
def recA (A : AS) (s' : Int → Int) : AS := (s', recH A.2.1 A.1 A.2.2.1, recK A.2.2.1, A.2.2.2)
def a_issue (A : AS) (h : Int) : Int × AS := if ¬ (0 ≤ h ∧ h ≤ 5) then (-1, A) else if A.1 619 = 6 then (-3, A) else (A.1 619, recA A (issueS A.1 h))
def a_renew (A : AS) (p : Int) : Int × AS := if ¬ (0 ≤ p ∧ p ≤ A.1 619 - 1) then (-1, A) else (A.1 (103 * p + 8), recA A (beginS A.1 p (A.1 (103 * p + 2))))
def a_grant (A : AS) (p c a u d : Int) : Int × AS := if errGrant A.1 p c a u d ≠ 0 then (errGrant A.1 p c a u d, A) else (usedOn (grantS A.1 p c a u d) p c (grantS A.1 p c a u d 618), recA A (grantS A.1 p c a u d))
def a_revoke (A : AS) (p c : Int) : Int × AS := if ¬ areT A.1 p c then (-1, A) else if ¬ hasV A.1 p c then (-5, A) else (usedOn A.1 p c (A.1 618), recA A (revokeS A.1 p c))
def a_turn (A : AS) (a b : Int) : Int × AS := if ¬ ((0 ≤ a ∧ a ≤ 5) ∧ (0 ≤ b ∧ b ≤ 5)) then (-1, A) else if a = b then (-2, A) else (closedN (turnS A.1 a b), recA A (turnS A.1 a b))
def a_cross (A : AS) (p c f : Int) : Int × AS := if errCross A.1 p c f ≠ 0 then (errCross A.1 p c f, A) else (crossS A.1 p c f (103 * p + 8), recA A (crossS A.1 p c f))
def a_pass (A : AS) (d : Int) : Int × AS := if errPass A.1 d ≠ 0 then (errPass A.1 d, A) else (daysN A.1 d.toNat, recA A (daysS A.1 d.toNat))
def a_type (A : AS) (ch : Int) : Int × AS := if A.2.2.2.2.2.2.1 = 60 then (-3, A) else (A.2.2.2.2.2.2.1 + 1, (A.1, A.2.1, A.2.2.1, A.2.2.2.1, A.2.2.2.2.1, upI A.2.2.2.2.2.1 A.2.2.2.2.2.2.1 ch, A.2.2.2.2.2.2.1 + 1, A.2.2.2.2.2.2.2))
def a_clear (A : AS) : Int × AS := (A.2.2.2.2.2.2.1, (A.1, A.2.1, A.2.2.1, A.2.2.2.1, A.2.2.2.2.1, A.2.2.2.2.2.1, 0, A.2.2.2.2.2.2.2))
def a_undo (A : AS) : Int × AS := if A.2.2.1 = 0 then (-5, A) else (A.2.2.1 - 1, (A.2.1 (A.2.2.1 - 1), A.2.1, A.2.2.1 - 1, A.2.2.2))
def a_keep (A : AS) : Int × AS := (A.1 618, (A.1, A.2.1, A.2.2.1, A.1, 1, A.2.2.2.2.2))
def a_restore (A : AS) : Int × AS := if A.2.2.2.2.1 = 0 then (-5, A) else (A.2.2.2.1 618, recA A A.2.2.2.1)
def MdA (E : Ev) (M : Mem) (m : Nat) (A : AS) (a : Int → Int) (sp wr le f1 f2 f3 f4 f5 sb : Int) : Mem := md E M m A.1 a (hOf A.2.1) A.2.2.2.1 A.2.2.2.2.2.1 A.2.2.1 A.2.2.2.2.1 A.2.2.2.2.2.2.1 A.2.2.2.2.2.2.2.1 A.2.2.2.2.2.2.2.2 sp wr le f1 f2 f3 f4 f5 sb
/-! rows copied piece by piece -/
def mixI (i : Nat) (f h : Int → Int) : Int → Int := fun j => if 0 ≤ j ∧ j < i then f j else h j
theorem mixI_0 (f h : Int → Int) : mixI 0 f h = h := by funext j; unfold mixI; rw [if_neg (by omega)]
theorem mixI_s (f h : Int → Int) (i : Nat) : upI (mixI i f h) i (f i) = mixI (i + 1) f h := by
  funext j
  unfold upI mixI
  by_cases hj : j = i
  · rw [if_pos hj, if_pos (by omega), hj]
  · rw [if_neg hj]
    by_cases h2 : 0 ≤ j ∧ j < i
    · rw [if_pos h2, if_pos (by omega)]
    · rw [if_neg h2, if_neg (by omega)]
theorem mixI_at (f h : Int → Int) (i : Nat) : mixI i f h i = h i := if_neg (by omega)
theorem mixI_in (f h : Int → Int) {i : Nat} {j : Int} (h0 : 0 ≤ j) (h1 : j < i) : mixI i f h j = f j := if_pos ⟨h0, h1⟩
def shP (h : Int → Int) (i : Nat) : Int → Int := fun j => if 0 ≤ j ∧ j < i then h (j + 622) else h j
theorem shP_0 (h : Int → Int) : shP h 0 = h := by funext j; unfold shP; rw [if_neg (by omega)]
theorem shP_s (h : Int → Int) (i : Nat) : upI (shP h i) i (shP h i (i + 622)) = shP h (i + 1) := by
  funext j
  unfold upI shP
  by_cases hj : j = i
  · rw [if_pos hj, if_neg (by omega), if_pos (by omega), hj]
  · rw [if_neg hj]
    by_cases h2 : 0 ≤ j ∧ j < i
    · rw [if_pos h2, if_pos (by omega)]
    · rw [if_neg h2, if_neg (by omega)]
def ptP (h s : Int → Int) (k : Int) (i : Nat) : Int → Int := fun j => if 622 * k ≤ j ∧ j < 622 * k + i then s (j - 622 * k) else h j
theorem ptP_0 (h s : Int → Int) (k : Int) : ptP h s k 0 = h := by funext j; unfold ptP; rw [if_neg (by omega)]
theorem ptP_s (h s : Int → Int) (k : Int) (i : Nat) : upI (ptP h s k i) (622 * k + i) (s i) = ptP h s k (i + 1) := by
  funext j
  unfold upI ptP
  by_cases hj : j = 622 * k + i
  · rw [if_pos hj, if_pos (by omega), show j - 622 * k = i by omega]
  · rw [if_neg hj]
    by_cases h2 : 622 * k ≤ j ∧ j < 622 * k + i
    · rw [if_pos h2, if_pos (by omega)]
    · rw [if_neg h2, if_neg (by omega)]
theorem hOf_at (H : Int → Int → Int) {k j : Int} (h : 0 ≤ j ∧ j < 622) : hOf H (622 * k + j) = H k j := by
  unfold hOf; rw [show (622 * k + j) / 622 = k by omega, show (622 * k + j) % 622 = j by omega]
theorem hOf_sh (H : Int → Int → Int) {j : Int} (h : 0 ≤ j ∧ j < 2488) : shP (hOf H) 1866 j = hOf (fun i => if i < 3 then H (i + 1) else H i) j := by
  unfold shP hOf
  show _ = (if j / 622 < 3 then H (j / 622 + 1) else H (j / 622)) (j % 622)
  by_cases h2 : j < 1866
  · rw [if_pos (by omega), if_pos (by omega), show (j + 622) / 622 = j / 622 + 1 by omega, show (j + 622) % 622 = j % 622 by omega]
  · rw [if_neg (by omega), if_neg (by omega)]
theorem hOf_pt (H : Int → Int → Int) (s : Int → Int) (k : Int) (j : Int) : ptP (hOf H) s k 622 j = hOf (fun i => if i = k then s else H i) j := by
  unfold ptP hOf
  show _ = (if j / 622 = k then s else H (j / 622)) (j % 622)
  by_cases h2 : 622 * k ≤ j ∧ j < 622 * k + 622
  · rw [if_pos (by omega), if_pos (by omega), show j - 622 * k = j % 622 by omega]
  · rw [if_neg (by omega), if_neg (by omega)]
theorem hOf_c {H H' : Int → Int → Int} {j : Int} (h : 0 ≤ j ∧ j < 2488) (hh : ∀ i, 0 ≤ i → i < 4 → H i = H' i) : hOf H j = hOf H' j := by
  unfold hOf; rw [hh _ (by omega) (by omega)]
theorem issueS_v {s : Int → Int} {h : Int} (hm : 0 ≤ s 619 ∧ s 619 < 6) : issueS s h 619 = s 619 + 1 := by
  unfold issueS; rw [beginS_n (by omega)]; exact (issueD_v hm).1
theorem errGrant_ok {s : Int → Int} {p c a u d : Int} (h : errGrant s p c a u d = 0) : (0 ≤ p ∧ p < s 619) ∧ (0 ≤ c ∧ c < 6) ∧ (0 ≤ a ∧ a ≤ 999) ∧ (0 ≤ u ∧ u ≤ 999) ∧ (0 ≤ d ∧ d ≤ 99) ∧ s (103 * p + 0) ≠ c ∧ a ≤ u ∧ 1 ≤ d := by
  unfold errGrant at h
  split at h
  · omega
  · split at h
    · omega
    · split at h
      · omega
      · refine ⟨by omega, by omega, by omega, by omega, by omega, by assumption, by omega, by omega⟩
theorem errCross_b (s : Int → Int) (p c f : Int) : -16 ≤ errCross s p c f ∧ errCross s p c f ≤ 0 := by
  have := hindr_b s p c (2 - f % 2 - f / 2)
  unfold errCross
  repeat' split
  all_goals omega
theorem errGrant_b (s : Int → Int) (p c a u d : Int) : -16 ≤ errGrant s p c a u d ∧ errGrant s p c a u d ≤ 0 := by
  unfold errGrant
  repeat' split
  all_goals omega
theorem errPass_b (s : Int → Int) (d : Int) : -16 ≤ errPass s d ∧ errPass s d ≤ 0 := by
  unfold errPass
  repeat' split
  all_goals omega
theorem errCross_ok {s : Int → Int} {p c f : Int} (hO : Ok s) (h : errCross s p c f = 0) : (0 ≤ p ∧ p < s 619) ∧ (0 ≤ c ∧ c ≤ 5) ∧ (0 ≤ f ∧ f ≤ 3) ∧ hindr s p c (2 - f % 2 - f / 2) = 0 ∧ s (103 * p + 8) + (2 - f % 2 - f / 2) ≤ 16 ∧ s (103 * p + 3) < 60 ∧ s (103 * p + 2) ≠ c := by
  have hb := hindr_b s p c (2 - f % 2 - f / 2)
  unfold errCross at h
  split at h
  · omega
  · split at h
    · omega
    · split at h
      · omega
      · have h0 : hindr s p c (2 - f % 2 - f / 2) = 0 := by omega
        have h1 := hindr_ok (hO.at (p := p) (by omega) (by omega)) h0
        exact ⟨by omega, by omega, by omega, h0, h1⟩
theorem errPass_ok {s : Int → Int} {d : Int} (h : errPass s d = 0) : (1 ≤ d ∧ d ≤ 99) ∧ s 618 + d ≤ 999 := by
  unfold errPass at h
  split at h
  · omega
  · split at h <;> omega
