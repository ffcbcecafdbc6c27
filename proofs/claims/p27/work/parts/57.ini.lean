/-! MAKINGS: a block that grows -/
def hdC (o : va_E) (c : Nat → va_E) : Nat → va_E := fun j => if j = 0 then o else c j
section
variable {M : Mem} {m k j : Nat} {o o' e : va_E} {c c' d : Nat → va_E}
theorem hd_0 (h : 0 < k) : ov M m k (hdC o c) m = o := (ov_0 h).trans (if_pos rfl)
theorem hd_i (h : j < k) (h0 : 0 < j) : ov M m k (hdC o c) (m + j) = c j := (ov_in h).trans (if_neg (by omega))
theorem hd_up (h : 0 < k) : va_up (ov M m k (hdC o c)) m o' = ov M m k (hdC o' c) := ov_up (k := 0) h (if_pos rfl) (fun j hj hn => by unfold hdC; rw [if_neg hn, if_neg hn])
theorem hd_push (h : 0 < k) (hc : c k = e) : va_up (ov M m k (hdC o c)) (m + k) e = ov M m (k + 1) (hdC o c) := by
  funext q
  by_cases hq : q = m + k
  · subst hq
    rw [va_up_self, ov_in (by omega)]
    unfold hdC
    rw [if_neg (by omega), hc]
  · rw [va_up_ne _ _ hq]
    unfold ov
    by_cases h2 : m ≤ q ∧ q < m + k
    · rw [if_pos h2, if_pos (by omega)]
    · rw [if_neg h2, if_neg (by omega)]
theorem hd_app (h : 0 < k) (hc : ∀ i, i < j → c (k + i) = d i) : ov (ov M m k (hdC o c)) (m + k) j d = ov M m (k + j) (hdC o c) := by
  funext q
  by_cases hq : m + k ≤ q ∧ q < m + k + j
  · have e1 : ov (ov M m k (hdC o c)) (m + k) j d q = d (q - (m + k)) := if_pos hq
    have e2 : ov M m (k + j) (hdC o c) q = hdC o c (q - m) := if_pos (by omega)
    rw [e1, e2]
    unfold hdC
    rw [if_neg (by omega), ← hc _ (by omega), show k + (q - (m + k)) = q - m by omega]
  · have e1 : ov (ov M m k (hdC o c)) (m + k) j d q = ov M m k (hdC o c) q := if_neg hq
    rw [e1]
    unfold ov
    by_cases h2 : m ≤ q ∧ q < m + k
    · rw [if_pos h2, if_pos (by omega)]
    · rw [if_neg h2, if_neg (by omega)]
theorem hd_1 (h : M m = o) : M = ov M m 1 (hdC o c) := (ov_id (fun j hj => by rw [show j = 0 by omega]; exact h)).symm
theorem hd_end (h : c 0 = o) : ov M m k (hdC o c) = ov M m k c := by
  congr 1
  funext j
  unfold hdC
  split
  · next hj => rw [hj, h]
  · rfl
theorem ov_vup (h : 0 < j) : ov (va_up M m e) m j d = ov M m j d := by
  funext q
  unfold ov
  by_cases h2 : m ≤ q ∧ q < m + j
  · rw [if_pos h2, if_pos h2]
  · rw [if_neg h2, if_neg h2, va_up_ne _ _ (by omega)]
theorem hd_c (h : ∀ j, 0 < j → j < k → c j = c' j) : ov M m k (hdC o c) = ov M m k (hdC o c') := by
  funext q
  unfold ov
  split
  · next hq =>
    unfold hdC
    split
    · rfl
    · exact h _ (by omega) (by omega)
  · rfl
end
theorem V.eqA {E : Ev} {X : Cx} {nc nc' ns ns' n n' pc : Nat} {M M' : Mem} {lc : List (Option Value)} {st : List Value} (h1 : nc = nc') (h2 : ns = ns') (h3 : n = n') (h4 : M = M') (k : V E X nc' ns' n' M' pc lc st) : V E X nc ns n M pc lc st := by subst h1; subst h2; subst h3; subst h4; exact k
/-- what an array of references holds outside its length does not matter -/
theorem V.repR {E : Ev} {X : Cx} {nc ns n pc a w len : Nat} {M : Mem} {lc : List (Option Value)} {st : List Value} {f h : Int → Option Nat} (hm : M a = ra E w len f) (hfh : ∀ j : Int, 0 ≤ j → j < len → f j = h j) (k : V E X nc ns n (va_up M a (ra E w len h)) pc lc st) : V E X nc ns n M pc lc st := by
  obtain ⟨l, D, cy, b0⟩ := E
  obtain ⟨p, e, R, s, m, args, below, meth, c, nL, Q⟩ := X
  intro H locs ls hn ho hP hS hl
  have ha := ho.in (a := a) (by rw [hm]; exact bad_l)
  have he := pool_get (M := M) ha
  refine k H locs ls hn (ho.up ha _) ?_ hS hl
  intro j q hq
  rw [pool_at] at hq
  split at hq
  · next hj =>
    cases hq
    have h0 := hP j (b0 + j, M (b0 + j)) (by rw [pool_at, if_pos hj])
    by_cases hja : b0 + j = a
    · subst hja
      rw [hm] at h0
      show va_at D vwCl (b0 + j, va_up M (b0 + j) _ (b0 + j)) H
      rw [va_up_self]
      generalize hcA : (((tysOf cy)[w]?).getD (0, .int)).1 = cA
      have e1 : ra (l, D, cy, b0) w len f = .inl (cA, len, .inr (.inr (.inr (.inr (fun k : Nat => f (k : Int)))))) := by rw [← hcA]; rfl
      have e2 : ra (l, D, cy, b0) w len h = .inl (cA, len, .inr (.inr (.inr (.inr (fun k : Nat => h (k : Int)))))) := by rw [← hcA]; rfl
      rw [e1] at h0
      rw [e2]
      have h1 : H[b0 + j]? = some (vp_cell cA (len, .inr (.inr (.inr (.inr (fun k : Nat => f (k : Int))))))) := h0
      show H[b0 + j]? = some (vp_cell cA (len, .inr (.inr (.inr (.inr (fun k : Nat => h (k : Int)))))))
      rw [h1]
      congr 1
      rw [vp_cell_q, vp_cell_q]
      unfold arrV
      congr 1
      congr 1
      funext i
      show va_rf (f (i.val : Int)) = va_rf (h (i.val : Int))
      rw [hfh i.val (by omega) (by have := i.isLt; omega)]
    · show va_at D vwCl (b0 + j, va_up M a _ (b0 + j)) H
      rw [va_up_ne _ _ hja]
      exact h0
  · cases hq
/-! what the class's makings make -/
def z0 : Int → Int := fun _ => 0
def c0 : HC := (0, 0, 0, z0, z0, 0, z0, z0, 0, z0, fun _ => none)
def gR (a st : Nat) (i : Nat) : Int → Option Nat := fun k => if 0 ≤ k ∧ k < i then some (a + st * k.toNat) else none
theorem gR_0 {a st : Nat} : gR a st 0 = fun _ => none := by funext k; exact if_neg (by omega)
theorem gR_s {a st i : Nat} : upR (gR a st i) i (some (a + st * i)) = gR a st (i + 1) := by
  funext k
  unfold upR gR
  by_cases hk : k = i
  · rw [if_pos hk, if_pos (by omega), show k.toNat = i by omega]
  · rw [if_neg hk]
    by_cases h2 : 0 ≤ k ∧ k < i
    · rw [if_pos h2, if_pos (by omega)]
    · rw [if_neg h2, if_neg (by omega)]
def cS (E : Ev) (m i : Nat) : Nat → va_E := fun j => if j = 1 then ra E 2 6 (gR (m + 2) 10 i) else sC E m 0 0 0 0 (fun _ => c0) j
theorem cS_h {E : Ev} {m i i' z : Nat} (hz : z < 10) : cS E m i (2 + 10 * i' + z) = hcC E (hbs m i') c0 z := (if_neg (by omega)).trans (sC_h hz)
def oS2 (m : Nat) : va_E := .inr (2, [.int 0, .int 0, .int 0, .long 0, .ref (m + 1)])
theorem cS_up {E : Ev} {M : Mem} {m i k : Nat} {o : va_E} (hk : 1 < k) : va_up (ov M m k (hdC o (cS E m i))) (m + 1) (ra E 2 6 (upR (gR (m + 2) 10 i) i (some (m + 2 + 10 * i)))) = ov M m k (hdC o (cS E m (i + 1))) := ov_up (k := 1) hk (by rw [gR_s]; rfl) (fun j hj hn => by
  unfold hdC cS
  rw [if_neg hn, if_neg hn])
theorem cS_end {E : Ev} {M : Mem} {m : Nat} : va_up (ov M m 62 (hdC (oS2 m) (cS E m 6))) (m + 1) (ra E 2 6 (hsF m)) = stU E M m 0 0 0 0 (fun _ => c0) := ov_up (k := 1) (by omega) rfl (fun j hj hn => by
  unfold hdC cS
  rw [if_neg hn]
  by_cases h0 : j = 0
  · subst h0; rfl
  · rw [if_neg h0])
def cX (E : Ev) (o i : Nat) : Nat → va_E := fun j =>
  if j < 63 then sC E (o + 1) 0 0 0 0 (fun _ => c0) (j - 1)
  else if j < 125 then sC E (o + 63) 0 0 0 0 (fun _ => c0) (j - 63)
  else if j < 187 then sC E (o + 125) 0 0 0 0 (fun _ => c0) (j - 125)
  else if j = 187 then ra E 3 4 (gR (o + 188) 62 i)
  else if j < 436 then sC E (o + 188 + 62 * ((j - 188) / 62)) 0 0 0 0 (fun _ => c0) ((j - 188) % 62)
  else xtC E (o + 436) z0 0 0 0 0 0 0 0 0 0 0 (j - 436)
section
variable {E : Ev} {o i z : Nat}
theorem cX_a (h : z < 62) : cX E o i (1 + z) = sC E (o + 1) 0 0 0 0 (fun _ => c0) z := by
  unfold cX; rw [if_pos (by omega), show 1 + z - 1 = z by omega]
theorem cX_b (h : z < 62) : cX E o i (63 + z) = sC E (o + 63) 0 0 0 0 (fun _ => c0) z := by
  unfold cX; rw [if_neg (by omega), if_pos (by omega), show 63 + z - 63 = z by omega]
theorem cX_c (h : z < 62) : cX E o i (125 + z) = sC E (o + 125) 0 0 0 0 (fun _ => c0) z := by
  unfold cX; rw [if_neg (by omega), if_neg (by omega), if_pos (by omega), show 125 + z - 125 = z by omega]
theorem cX_r : cX E o i 187 = ra E 3 4 (gR (o + 188) 62 i) := by
  unfold cX; rw [if_neg (by omega), if_neg (by omega), if_neg (by omega), if_pos rfl]
theorem cX_h {i' : Nat} (h : z < 62) (hi : i' < 4) : cX E o i (188 + 62 * i' + z) = sC E (o + 188 + 62 * i') 0 0 0 0 (fun _ => c0) z := by
  unfold cX
  rw [if_neg (by omega), if_neg (by omega), if_neg (by omega), if_neg (by omega), if_pos (by omega), show (188 + 62 * i' + z - 188) / 62 = i' by omega, show (188 + 62 * i' + z - 188) % 62 = z by omega]
theorem cX_t (h : z < 2) : cX E o i (436 + z) = xtC E (o + 436) z0 0 0 0 0 0 0 0 0 0 0 z := by
  unfold cX; rw [if_neg (by omega), if_neg (by omega), if_neg (by omega), if_neg (by omega), if_neg (by omega), show 436 + z - 436 = z by omega]
theorem cX_up {M : Mem} {k : Nat} {u : va_E} (hk : 187 < k) : va_up (ov M o k (hdC u (cX E o i))) (o + 187) (ra E 3 4 (upR (gR (o + 188) 62 i) i (some (o + 188 + 62 * i)))) = ov M o k (hdC u (cX E o (i + 1))) := ov_up (k := 187) hk (by rw [gR_s]; exact cX_r) (fun j hj hn => by
  unfold hdC cX
  rw [if_neg hn, if_neg hn])
end
/-! the reference's -/
def cM (E : Ev) : Nat → va_E := fun j => if j = 1 then ia E 622 z0 else if j = 2 then ia E 622 z0 else if j = 3 then ia E 2488 z0 else if j = 4 then ia E 622 z0 else ia E 60 z0
theorem cM_md {E : Ev} {M : Mem} {m : Nat} : va_up (ov M m 6 (hdC (MO m 0 0 0 (-5) (-5) 0 0 0 0 0 0 0 0 0) (cM E))) (m + 1) (ia E 622 (upI z0 618 0)) = md E M m z0 z0 z0 z0 z0 0 0 0 (-5) (-5) 0 0 0 0 0 0 0 0 0 := by
  have e0 : upI z0 618 0 = z0 := by
    funext j; unfold upI; split <;> rfl
  rw [e0]
  funext q
  by_cases h1 : q = m + 1
  · subst h1; rw [va_up_self]; exact md_1.symm
  · rw [va_up_ne _ _ h1]
    by_cases h : m ≤ q ∧ q < m + 6
    · have e1 : ov M m 6 (hdC (MO m 0 0 0 (-5) (-5) 0 0 0 0 0 0 0 0 0) (cM E)) q = hdC (MO m 0 0 0 (-5) (-5) 0 0 0 0 0 0 0 0 0) (cM E) (q - m) := if_pos h
      rw [e1]
      rcases (show q = m ∨ q = m + 2 ∨ q = m + 3 ∨ q = m + 4 ∨ q = m + 5 by omega) with rfl | rfl | rfl | rfl | rfl
      · rw [show q - q = 0 by omega]; exact md_0.symm
      · rw [show m + 2 - m = 2 by omega]; exact md_2.symm
      · rw [show m + 3 - m = 3 by omega]; exact md_3.symm
      · rw [show m + 4 - m = 4 by omega]; exact md_4.symm
      · rw [show m + 5 - m = 5 by omega]; exact md_5.symm
    · have e1 : ov M m 6 (hdC (MO m 0 0 0 (-5) (-5) 0 0 0 0 0 0 0 0 0) (cM E)) q = M q := if_neg h
      rw [e1]
      exact (md_n (by omega)).symm
