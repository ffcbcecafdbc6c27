/-! WHAT A PASSPORT'S NUMBERS TELL depends on its own 103 numbers alone -/
section
variable {s t : Int → Int} {p : Int}
abbrev sameP (s t : Int → Int) (p : Int) : Prop := ∀ j : Int, 0 ≤ j → j < 103 → t (103 * p + j) = s (103 * p + j)
theorem jD_fr {i : Int} (hw : sameP s t p) (h0 : 0 ≤ i) (h1 : i ≤ 60) : jD t p i = jD s p i := by
  unfold jD
  split
  · exact hw 1 (by omega) (by omega)
  · rw [hw (43 + (i - 1)) (by omega) (by omega)]
theorem jP_fr {i : Int} (hw : sameP s t p) (h0 : 0 ≤ i) (h1 : i ≤ 60) : jP t p i = jP s p i := by
  unfold jP
  split
  · exact hw 0 (by omega) (by omega)
  · rw [hw (43 + (i - 1)) (by omega) (by omega)]
theorem stC_fr {r : Int} (hw : sameP s t p) (h0 : 0 ≤ r) (h1 : r < 16) : stC t p r = stC s p r := by
  unfold stC
  rw [hw (9 + r) (by omega) (by omega)]
theorem bD_fr {i : Int} (hw : sameP s t p) (h0 : 0 ≤ i) (h1 : i ≤ 16) : bD t p i = bD s p i := by
  unfold bD stD
  split
  · exact hw 7 (by omega) (by omega)
  · rw [hw (9 + (i - 1)) (by omega) (by omega)]
theorem bP_fr {i : Int} (hw : sameP s t p) (h0 : 0 ≤ i) (h1 : i ≤ 16) : bP t p i = bP s p i := by
  unfold bP stC
  split
  · exact hw 6 (by omega) (by omega)
  · rw [hw (9 + (i - 1)) (by omega) (by omega)]
theorem HolR.fr {hm os nb jk bk : Int} {jd jp bd bp bc : Int → Int} (h : HolR s p hm os nb jd jp jk bd bp bk bc) (hk : OkP s p) (hw : sameP s t p) : HolR t p hm os nb jd jp jk bd bp bk bc := by
  have h1 := hk.crs
  have h2 := hk.stm
  obtain ⟨⟨a1, a2, a3, a4, a5⟩, b, c, d⟩ := h
  refine ⟨⟨a1.trans (hw 0 (by omega) (by omega)).symm, a2.trans (hw 4 (by omega) (by omega)).symm, a3.trans (hw 5 (by omega) (by omega)).symm, a4.trans (hw 3 (by omega) (by omega)).symm, a5.trans (hw 8 (by omega) (by omega)).symm⟩, fun i h0 hi => ?_, fun i h0 hi => ?_, fun r h0 hr => ?_⟩
  · rw [jD_fr hw h0 (by omega), jP_fr hw h0 (by omega)]; exact b i h0 hi
  · rw [bD_fr hw h0 (by omega), bP_fr hw h0 (by omega)]; exact c i h0 hi
  · rw [stC_fr hw h0 (by omega)]; exact d r h0 hr
theorem VisR.frs {M : Mem} {vs : Int → Option Nat} (h : VisR M s p vs) (hw : sameP s t p) : VisR M t p vs := fun c h0 h1 => by
  have e0 : vOf t p c 0 = vOf s p c 0 := hw (25 + 3 * c + 0) (by omega) (by omega)
  have e1 : vOf t p c 1 = vOf s p c 1 := hw (25 + 3 * c + 1) (by omega) (by omega)
  have e2 : vOf t p c 2 = vOf s p c 2 := hw (25 + 3 * c + 2) (by omega) (by omega)
  rcases h c h0 h1 with ⟨a, b⟩ | ⟨u, a, b, d⟩
  · exact Or.inl ⟨a, by show ¬ 0 < vOf t p c 2; rw [e2]; exact b⟩
  · exact Or.inr ⟨u, a, by rw [e0, e1, e2]; exact b, by show 0 < vOf t p c 2; rw [e2]; exact d⟩
end
/-! a copy tells what its model tells -/
theorem cpH_R {s : Int → Int} {p : Int} {c2 c : HC} (h : HcR s p c2) (hk : OkP s p) : HcR s p (cpH c2 c) := by
  have h1 := hk.crs
  have h2 := hk.stm
  obtain ⟨⟨a1, a2, a3, a4, a5⟩, b, cc, d⟩ := h
  refine ⟨⟨a1, a2, a3, a4, a5⟩, fun i h0 hi => ?_, fun i h0 hi => ?_, fun r h0 hr => ?_⟩
  · have q := b i h0 hi
    exact ⟨(if_pos ⟨h0, by show i < hcj c2 + 1; have : i ≤ hcj c2 := hi; omega⟩).trans q.1, (if_pos ⟨h0, by show i < hcj c2 + 1; have : i ≤ hcj c2 := hi; omega⟩).trans q.2⟩
  · have q := cc i h0 hi
    exact ⟨(if_pos ⟨h0, by show i < hcb c2 + 1; have : i ≤ hcb c2 := hi; omega⟩).trans q.1, (if_pos ⟨h0, by show i < hcb c2 + 1; have : i ≤ hcb c2 := hi; omega⟩).trans q.2⟩
  · have q := d r h0 hr
    have h3 : hcb c2 = s (103 * p + 8) := a5
    have h4 : r < hcb c2 := hr
    exact (if_pos ⟨h0, by omega⟩).trans q
theorem cpV_R {M : Mem} {s : Int → Int} {p : Int} {c2 c : HC} (h : VisR M s p (hcv c2)) : VisR M s p (hcv (cpH c2 c)) := fun k h0 h1 => by
  have e : hcv (cpH c2 c) k = hcv c2 k := if_pos ⟨h0, by omega⟩
  rw [e]; exact h k h0 h1
