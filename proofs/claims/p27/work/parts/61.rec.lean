/-! the history's row shifts; a state is recorded -/
def shA (ad : Int → Nat) (k : Nat) : Int → Nat := fun j => if 0 ≤ j ∧ j < k then ad (j + 1) else ad j
theorem shA_0 {ad : Int → Nat} : shA ad 0 = ad := by funext j; exact if_neg (by omega)
theorem shA_at {ad : Int → Nat} {k : Nat} {j : Int} (h : k ≤ j) : shA ad k j = ad j := if_neg (by omega)
theorem shA_s {ad : Int → Nat} {i : Nat} (h : 1 ≤ i) : upA (shA ad (i - 1)) ((i : Int) - 1) (ad i) = shA ad i := by
  funext j
  unfold upA shA
  by_cases hj : j = (i : Int) - 1
  · rw [if_pos hj, if_pos (by omega), show j + 1 = (i : Int) by omega]
  · rw [if_neg hj]
    by_cases h2 : 0 ≤ j ∧ j < i
    · rw [if_pos h2, if_pos (by omega)]
    · rw [if_neg h2, if_neg (by omega)]
def rotA (ad : Int → Nat) : Int → Nat := upA (shA ad 3) 3 (ad 0)
theorem rotA_l {ad : Int → Nat} {i : Int} (h : 0 ≤ i ∧ i < 3) : rotA ad i = ad (i + 1) := by
  unfold rotA upA shA
  rw [if_neg (by omega), if_pos (by omega)]
theorem rotA_3 {ad : Int → Nat} : rotA ad 3 = ad 0 := by unfold rotA upA; exact if_pos rfl
section
variable {E : Ev} {M M' : Mem} {w n o b : Nat} {s sb : Int → Int} {H : Int → Int → Int} {kn kp k : Int} {sp : Int → Int} {ad : Int → Nat}
theorem XA.rot (h : XA o ad b) : XA o (rotA ad) b := by
  obtain ⟨h1, h2, h3, h4⟩ := h
  have e : ∀ i : Int, 0 ≤ i → i < 4 → ∃ j : Int, (0 ≤ j ∧ j < 4) ∧ rotA ad i = ad j ∧ j = (if i = 3 then 0 else i + 1) := fun i a c => by
    by_cases q : i = 3
    · subst q; exact ⟨0, by omega, rotA_3, rfl⟩
    · exact ⟨i + 1, by omega, rotA_l (by omega), (if_neg q).symm⟩
  refine ⟨fun i a c => ?_, h2, fun i j a c a2 c2 q => ?_, fun i a c => ?_⟩
  · obtain ⟨z, hz, e1, -⟩ := e i a c
    rw [e1]; exact h1 z hz.1 hz.2
  · obtain ⟨z, hz, e1, f1⟩ := e i a c
    obtain ⟨y, hy, e2, f2⟩ := e j a2 c2
    rw [e1, e2]
    refine h3 z y hz.1 hz.2 hy.1 hy.2 ?_
    rw [f1, f2]
    repeat' split
    all_goals omega
  · obtain ⟨z, hz, e1, -⟩ := e i a c
    rw [e1]; exact h4 z hz.1 hz.2
theorem XB.rot (h : XB E M w n o s sb H 4 sp kp ad b) : XB E M w n o s sb (fun i => if i < 3 then H (i + 1) else H i) 3 sp kp (rotA ad) b := by
  refine ⟨h.1, h.2.1, h.2.2.1, fun i h0 h4 => ?_⟩
  by_cases q : i = 3
  · subst q
    obtain ⟨s1, a, -⟩ := h.2.2.2 0 (by omega) (by omega)
    rw [rotA_3]
    exact ⟨s1, a, fun z => absurd z (by omega)⟩
  · obtain ⟨s1, a, c⟩ := h.2.2.2 (i + 1) (by omega) (by omega)
    rw [rotA_l (by omega)]
    refine ⟨s1, a, fun z => ?_⟩
    show s1 = if i < 3 then H (i + 1) else H i
    rw [if_pos z]; exact c (by omega)
theorem XA.swp (h : XA o ad b) (hk : 0 ≤ k ∧ k < 4) : XA o (upA ad k b) (ad k) := by
  obtain ⟨h1, h2, h3, h4⟩ := h
  refine ⟨fun i a c => ?_, h1 k hk.1 hk.2, fun i j a c a2 c2 q => ?_, fun i a c => ?_⟩
  · unfold upA
    split
    · exact h2
    · exact h1 i a c
  · unfold upA
    by_cases e1 : i = k
    · rw [if_pos e1, if_neg (by omega)]; exact fun z => h4 j a2 c2 z.symm
    · by_cases e2 : j = k
      · rw [if_neg e1, if_pos e2]; exact h4 i a c
      · rw [if_neg e1, if_neg e2]; exact h3 i j a c a2 c2 q
  · unfold upA
    by_cases e1 : i = k
    · rw [if_pos e1]; exact fun z => h4 k hk.1 hk.2 z.symm
    · rw [if_neg e1]; exact h3 i k a c hk.1 hk.2 e1
end
theorem rec_end {E : Ev} {M M2 : Mem} {w n o b : Nat} {A : AS} {s : Int → Int} {H1 : Int → Int → Int} {k cn ce th nx ki pa co fo fr un da : Int} {ad : Int → Nat} (hk : 0 ≤ k ∧ k < 4) (hA : XA o ad b) (hB : XB E M w n o s A.1 H1 k A.2.2.2.1 A.2.2.2.2.1 ad b)
    (hD : XD E M w n o k A.2.2.2.2.1 A.2.2.2.2.2.1 A.2.2.2.2.2.2.1 A.2.2.2.2.2.2.2.1 A.2.2.2.2.2.2.2.2 ad b cn ce th nx ki pa co fo fr un da) (hr : ∀ i : Int, 0 ≤ i → i < k + 1 → (if i = k then A.1 else H1 i) = recH A.2.1 A.1 A.2.2.1 i) (hk1 : k + 1 = recK A.2.2.1)
    (e0 : M2 o = XO o (k + 1) (ad k) A.2.2.2.2.1 cn ce) (e1 : M2 (o + 187) = ra E 3 4 (hrF (upA ad k b))) (hf : ∀ q, q ≠ o → q ≠ o + 187 → M2 q = M q) : XR E M2 w n o (recA A s) := by
  obtain ⟨h0, h187, h436, hT, hkn, hkp, hst, how, hrg⟩ := hD
  have hB2 := hB.frm hA how (Nat.le_refl _) (M' := M2) (fun q hq => hf q (by omega) (by omega))
  obtain ⟨sk, hsk, -⟩ := hB2.2.2.2 k hk.1 hk.2
  refine ⟨sk, upA ad k b, ad k, cn, ce, th, nx, ki, pa, co, fo, fr, un, da, hA.swp hk, ⟨hB2.1, hsk, hB2.2.2.1, fun i a c => ?_⟩, ?_⟩
  · show ∃ s1, SR E M2 w n (upA ad k b i) s1 ∧ (i < recK A.2.2.1 → s1 = recH A.2.1 A.1 A.2.2.1 i)
    rw [← hk1]
    unfold upA
    by_cases q : i = k
    · rw [if_pos q]
      exact ⟨A.1, hB2.2.1, fun z => by rw [← hr i a z, if_pos q]⟩
    · rw [if_neg q]
      obtain ⟨s1, a1, c1⟩ := hB2.2.2.2 i a c
      exact ⟨s1, a1, fun z => by rw [← hr i a z, if_neg q]; exact c1 (by omega)⟩
  · show XD E M2 w n o (recK A.2.2.1) A.2.2.2.2.1 A.2.2.2.2.2.1 A.2.2.2.2.2.2.1 A.2.2.2.2.2.2.2.1 A.2.2.2.2.2.2.2.2 _ _ cn ce th nx ki pa co fo fr un da
    rw [← hk1]
    exact ⟨e0, e1, Bk.fr h436 (fun q a c => hf q (by omega) (by omega)), hT, by omega, hkp, hst, how, hrg⟩
