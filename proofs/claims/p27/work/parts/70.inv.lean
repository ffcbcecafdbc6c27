/-! WHAT MORE HOLDS of a state that acts have made (e: at most how many) -/
def InvP (s : Int → Int) (p e : Int) : Prop := (1 ≤ s (103 * p + 5) ∧ s (103 * p + 5) ≤ e + 1) ∧ (s (103 * p + 5) = 1 → s (103 * p + 6) = s (103 * p + 0)) ∧ ∀ c, 0 ≤ c → c < 6 → 0 < vOf s p c 2 → s (103 * p + 0) ≠ c ∧ vOf s p c 0 ≤ vOf s p c 1
def crsN (s : Int → Int) : Int := sumI (fun p => s (103 * p + 3)) (s 619).toNat
def Inv (s : Int → Int) (e : Int) : Prop := Ok s ∧ (∀ p, 0 ≤ p → p < s 619 → InvP s p e) ∧ 0 ≤ s 621 ∧ s 621 ≤ 2 * crsN s
theorem sumI_bump {f h : Int → Int} {p : Nat} {z : Int} : ∀ n : Nat, (∀ i : Nat, i < n → i ≠ p → h i = f i) → (p < n → h p = f p + z) → sumI h n = sumI f n + if p < n then z else 0
  | 0, _, _ => by rw [if_neg (by omega)]; rfl
  | n + 1, h1, h2 => by
    rw [sumI_s, sumI_s, sumI_bump n (fun i hi hn => h1 i (by omega) hn) (fun q => h2 (by omega))]
    by_cases q : p = n
    · subst q; rw [if_neg (by omega), if_pos (by omega), h2 (by omega)]; omega
    · rw [h1 n (by omega) (fun e => q e.symm)]
      by_cases q2 : p < n
      · rw [if_pos q2, if_pos (by omega)]; omega
      · rw [if_neg q2, if_neg (by omega)]; omega
section
variable {s t : Int → Int} {p e e' : Int}
theorem InvP.cg (h : InvP s p e) (he : e ≤ e') (hw : ∀ w : Int, (w = 0 ∨ w = 5 ∨ w = 6 ∨ (25 ≤ w ∧ w < 43)) → t (103 * p + w) = s (103 * p + w)) : InvP t p e' := by
  have e0 := hw 0 (by omega)
  have e5 := hw 5 (by omega)
  have e6 := hw 6 (by omega)
  obtain ⟨h1, h2, h3⟩ := h
  refine ⟨by rw [e5]; omega, by rw [e5, e6, e0]; exact h2, fun c c0 c1 => ?_⟩
  have ev : ∀ k : Int, 0 ≤ k → k < 3 → vOf t p c k = vOf s p c k := fun k k0 k1 => hw (25 + 3 * c + k) (by omega)
  rw [ev 2 (by omega) (by omega), ev 0 (by omega) (by omega), ev 1 (by omega) (by omega), e0]
  exact h3 c c0 c1
theorem Inv.up (h : Inv s e) (he : e ≤ e') : Inv s e' := ⟨h.1, fun p h0 h1 => (h.2.1 p h0 h1).cg he (fun _ _ => rfl), h.2.2⟩
theorem Inv.ok (h : Inv s e) : Ok s := h.1
/-- an act that changes one passport, and keeps its crossings -/
theorem Inv.one (h : Inv s e) (hO : Ok t) (e9 : t 619 = s 619) (e1 : t 621 = s 621) (h1 : InvP t p (e + 1)) (hw : ∀ q : Int, 0 ≤ q → q < s 619 → q ≠ p → ∀ w : Int, 0 ≤ w → w < 103 → t (103 * q + w) = s (103 * q + w)) (h3 : 0 ≤ p → p < s 619 → t (103 * p + 3) = s (103 * p + 3)) : Inv t (e + 1) := by
  refine ⟨hO, fun q h0 hq => ?_, ?_⟩
  · rw [e9] at hq
    by_cases z : q = p
    · rw [z]; exact h1
    · exact (h.2.1 q h0 hq).cg (by omega) (fun w hw' => hw q h0 hq z w (by omega) (by omega))
  · have ec : crsN t = crsN s := by
      unfold crsN
      rw [e9]
      refine sumI_c fun i hi => ?_
      by_cases z : (i : Int) = p
      · rw [z]; exact h3 (by omega) (by omega)
      · exact hw i (by omega) (by omega) z 3 (by omega) (by omega)
    rw [ec, e1]
    exact h.2.2
theorem Inv.renew {c : Int} (h : Inv s e) (hp : 0 ≤ p ∧ p < s 619) (hc : 0 ≤ c ∧ c ≤ 5) : Inv (beginS s p c) (e + 1) := by
  have hm := h.1.many
  have hi := h.2.1 p hp.1 hp.2
  have b := beginS_v (s := s) (p := p) (c := c) ⟨hp.1, by omega⟩
  have n : ∀ j : Int, j ≠ 103 * p + 5 ∧ j ≠ 103 * p + 6 ∧ j ≠ 103 * p + 7 ∧ j ≠ 103 * p + 8 → beginS s p c j = s j := fun j h => beginS_n h
  refine h.one (p := p) (h.1.begin hp hc) (n _ (by omega)) (n _ (by omega)) ?_ (fun q h0 h1 hq w w0 w1 => n _ (by omega)) (fun _ _ => n _ (by omega))
  obtain ⟨h1, h2, h3⟩ := hi
  refine ⟨by rw [b.2.2.2]; omega, by rw [b.2.2.2]; omega, fun c' c0 c1 => ?_⟩
  have ev : ∀ k : Int, 0 ≤ k → k < 3 → vOf (beginS s p c) p c' k = vOf s p c' k := fun k k0 k1 => n _ (by omega)
  rw [ev 2 (by omega) (by omega), ev 0 (by omega) (by omega), ev 1 (by omega) (by omega), n (103 * p + 0) (by omega)]
  exact h3 c' c0 c1
theorem Inv.grant {c a u d : Int} (h : Inv s e) (hg : errGrant s p c a u d = 0) : Inv (grantS s p c a u d) (e + 1) := by
  have hm := h.1.many
  obtain ⟨g1, g2, g3, g4, g5, g6, g7, g8⟩ := errGrant_ok hg
  have hi := h.2.1 p g1.1 g1.2
  have n : ∀ j : Int, j < 103 * p + (25 + 3 * c) ∨ 103 * p + (25 + 3 * c) + 2 < j → grantS s p c a u d j = s j := fun j h => grantS_n h
  have v := grantS_v (s := s) (p := p) (c := c) (a := a) (u := u) (d := d)
  refine h.one (p := p) (h.1.grant g1 g2 g3 g4 g5) (n _ (by omega)) (n _ (by omega)) ?_ (fun q h0 h1 hq w w0 w1 => n _ (by omega)) (fun _ _ => n _ (by omega))
  obtain ⟨h1, h2, h3⟩ := hi
  refine ⟨by rw [n (103 * p + 5) (by omega)]; omega, by rw [n (103 * p + 5) (by omega), n (103 * p + 6) (by omega), n (103 * p + 0) (by omega)]; exact h2, fun c' c0 c1 => ?_⟩
  rw [n (103 * p + 0) (by omega)]
  by_cases z : c' = c
  · rw [z, v.1, v.2.1]; exact fun _ => ⟨g6, g7⟩
  · have ev : ∀ k : Int, 0 ≤ k → k < 3 → vOf (grantS s p c a u d) p c' k = vOf s p c' k := fun k k0 k1 => n _ (by omega)
    rw [ev 2 (by omega) (by omega), ev 0 (by omega) (by omega), ev 1 (by omega) (by omega)]
    exact h3 c' c0 c1
theorem Inv.revoke {c : Int} (h : Inv s e) (hp : 0 ≤ p ∧ p < s 619) (hc : 0 ≤ c ∧ c < 6) : Inv (revokeS s p c) (e + 1) := by
  have hm := h.1.many
  have hi := h.2.1 p hp.1 hp.2
  have n : ∀ j : Int, j ≠ 103 * p + (25 + 3 * c + 2) → revokeS s p c j = s j := fun j hj => upI_n _ _ hj
  have v : revokeS s p c (103 * p + (25 + 3 * c + 2)) = 0 := upI_s _ _ _
  refine h.one (p := p) (h.1.revoke hp hc) (n _ (by omega)) (n _ (by omega)) ?_ (fun q h0 h1 hq w w0 w1 => n _ (by omega)) (fun _ _ => n _ (by omega))
  obtain ⟨h1, h2, h3⟩ := hi
  refine ⟨by rw [n (103 * p + 5) (by omega)]; omega, by rw [n (103 * p + 5) (by omega), n (103 * p + 6) (by omega), n (103 * p + 0) (by omega)]; exact h2, fun c' c0 c1 => ?_⟩
  rw [n (103 * p + 0) (by omega)]
  by_cases z : c' = c
  · rw [z, show vOf (revokeS s p c) p c 2 = 0 from v]; exact fun q => absurd q (by omega)
  · have ev : ∀ k : Int, 0 ≤ k → k < 3 → vOf (revokeS s p c) p c' k = vOf s p c' k := fun k k0 k1 => n _ (by omega)
    rw [ev 2 (by omega) (by omega), ev 0 (by omega) (by omega), ev 1 (by omega) (by omega)]
    exact h3 c' c0 c1
theorem Inv.turn {a b : Int} (h : Inv s e) (ha : 0 ≤ a ∧ a ≤ 5) (hb : 0 ≤ b ∧ b ≤ 5) (hn : a ≠ b) : Inv (turnS s a b) (e + 1) := by
  have hm := h.1.many
  have n : ∀ j : Int, j ≠ 620 → turnS s a b j = s j := fun j hj => upI_n _ _ hj
  have ec : crsN (turnS s a b) = crsN s := by
    unfold crsN
    rw [n 619 (by omega)]
    exact sumI_c fun i hi => n _ (by omega)
  refine ⟨h.1.turn ha hb hn, fun q h0 h1 => ?_, by rw [ec, n 621 (by omega)]; exact h.2.2⟩
  rw [n 619 (by omega)] at h1
  exact (h.2.1 q h0 h1).cg (by omega) (fun w hw => n _ (by omega))
theorem crossS_w {c f w : Int} (hw : w = 0 ∨ w = 1 ∨ (4 ≤ w ∧ w < 8) ∨ (25 ≤ w ∧ w < 43)) (hp : 0 ≤ p ∧ p < 6) (hf : 0 ≤ f ∧ f ≤ 3) (h8 : 0 ≤ s (103 * p + 8) ∧ s (103 * p + 8) + (2 - f % 2 - f / 2) ≤ 16) (h3 : 0 ≤ s (103 * p + 3) ∧ s (103 * p + 3) < 60) : crossS s p c f (103 * p + w) = s (103 * p + w) := by
  have n3 : _ := crossB_n (s := s) (p := p) (c := c) (f := f) (j := 103 * p + 3) (Or.inl (by omega)) hf h8
  have c3 : crossC s p c f (103 * p + 3) = s (103 * p + 3) := by unfold crossC; rw [upI_n _ _ (by omega)]; exact n3
  unfold crossS crossE crossD
  rw [upI_n _ _ (by omega), upI_n _ _ (by omega), upI_n _ _ (by omega)]
  unfold crossC
  rw [upI_n _ _ (by omega)]
  exact crossB_n (by omega) hf h8
theorem crossS_3 {c f : Int} (hp : 0 ≤ p ∧ p < 6) (hf : 0 ≤ f ∧ f ≤ 3) (h8 : 0 ≤ s (103 * p + 8) ∧ s (103 * p + 8) + (2 - f % 2 - f / 2) ≤ 16) (h3 : 0 ≤ s (103 * p + 3) ∧ s (103 * p + 3) < 60) : crossS s p c f (103 * p + 3) = s (103 * p + 3) + 1 := by
  have n3 : _ := crossB_n (s := s) (p := p) (c := c) (f := f) (j := 103 * p + 3) (Or.inl (by omega)) hf h8
  have c3 : crossC s p c f (103 * p + 3) = s (103 * p + 3) := by unfold crossC; rw [upI_n _ _ (by omega)]; exact n3
  have d3 : crossD s p c f (103 * p + 3) = s (103 * p + 3) := by unfold crossD; rw [upI_n _ _ (by omega)]; exact c3
  unfold crossS crossE
  rw [upI_n _ _ (by omega), upI_s, d3]
theorem Inv.cross {c f : Int} (h : Inv s e) (hg : errCross s p c f = 0) : Inv (crossS s p c f) (e + 1) := by
  have hm := h.1.many
  obtain ⟨g1, g2, g3, g4, g5, g6, g7⟩ := errCross_ok h.1 hg
  have hk := h.1.at g1.1 g1.2
  have h8 : 0 ≤ s (103 * p + 8) ∧ s (103 * p + 8) + (2 - f % 2 - f / 2) ≤ 16 := ⟨hk.stm.1, g5⟩
  have h3 : 0 ≤ s (103 * p + 3) ∧ s (103 * p + 3) < 60 := ⟨hk.crs.1, g6⟩
  have hp : 0 ≤ p ∧ p < 6 := ⟨g1.1, by omega⟩
  have n : ∀ j : Int, ¬ (103 * p ≤ j ∧ j < 103 * p + 103) → j ≠ 621 → crossS s p c f j = s j := fun j j1 j2 => crossS_n j1 j2 hp g3 h8 h3
  have v1 := crossS_621 (s := s) (p := p) (k := c) hp g3 h8 h3
  have v3 := crossS_3 (s := s) (p := p) (c := c) hp g3 h8 h3
  have e9 := n 619 (by omega) (by omega)
  refine ⟨h.1.cross g1 g2 g3 g5 g6, fun q h0 h1 => ?_, ?_⟩
  · rw [e9] at h1
    by_cases z : q = p
    · rw [z]
      exact (h.2.1 p g1.1 g1.2).cg (by omega) (fun w hw => crossS_w (by omega) hp g3 h8 h3)
    · exact (h.2.1 q h0 h1).cg (by omega) (fun w hw => n _ (by omega) (by omega))
  · have ec : crsN (crossS s p c f) = crsN s + 1 := by
      unfold crsN
      rw [e9]
      have := sumI_bump (f := fun q => s (103 * q + 3)) (h := fun q => crossS s p c f (103 * q + 3)) (p := p.toNat) (z := 1) (s 619).toNat (fun i hi hn => n _ (by omega) (by omega)) (fun _ => by show crossS s p c f (103 * (p.toNat : Int) + 3) = s (103 * (p.toNat : Int) + 3) + 1; rw [show (p.toNat : Int) = p by omega]; exact v3)
      rw [if_pos (by omega)] at this
      exact this
    have := h.2.2
    rw [ec, v1]
    omega
theorem issueS_5 {h : Int} (hm : 0 ≤ s 619 ∧ s 619 < 6) : issueS s h (103 * s 619 + 5) = 1 ∧ issueS s h (103 * s 619 + 6) = h ∧ issueS s h (103 * s 619 + 0) = h ∧ issueS s h (103 * s 619 + 3) = 0 ∧ ∀ w : Int, 25 ≤ w → w < 43 → issueS s h (103 * s 619 + w) = 0 := by
  obtain ⟨v9, v8, w0, w1, w2, w3⟩ := issueD_v (s := s) (h := h) hm
  have b := beginS_v (s := issueD s h) (p := s 619) (c := h) hm
  have n : ∀ j : Int, (j < 5 ∨ 8 < j) → issueS s h (103 * s 619 + j) = issueD s h (103 * s 619 + j) := fun j g1 => beginS_n (by omega)
  refine ⟨?_, b.1, (n 0 (by omega)).trans w0, (n 3 (by omega)).trans (w3 3 (by omega) (by omega)), fun w g1 g2 => (n w (by omega)).trans (w3 w (by omega) (by omega))⟩
  show beginS (issueD s h) (s 619) h (103 * s 619 + 5) = 1
  rw [b.2.2.2, w3 5 (by omega) (by omega)]
  rfl
theorem Inv.issue {h : Int} (hI : Inv s e) (he : 0 ≤ e) (hm : s 619 < 6) (hh : 0 ≤ h ∧ h ≤ 5) : Inv (issueS s h) (e + 1) := by
  have hm0 := hI.1.many
  have v := issueS_5 (s := s) (h := h) ⟨hm0.1, hm⟩
  have e9 := issueS_v (s := s) (h := h) ⟨hm0.1, hm⟩
  have n : ∀ j : Int, ¬ (103 * s 619 ≤ j ∧ j < 103 * s 619 + 103) → j ≠ 619 → issueS s h j = s j := fun j j1 j2 => issueS_n j1 j2
  refine ⟨hI.1.issue hm hh, fun q h0 h1 => ?_, ?_⟩
  · rw [e9] at h1
    by_cases z : q = s 619
    · rw [z]
      refine ⟨by rw [v.1]; omega, fun _ => by rw [v.2.1, v.2.2.1], fun c c0 c1 hc => ?_⟩
      have e2 : vOf (issueS s h) (s 619) c 2 = 0 := v.2.2.2.2 _ (by omega) (by omega)
      rw [e2] at hc
      omega
    · exact (hI.2.1 q h0 (by omega)).cg (by omega) (fun w hw => n _ (by omega) (by omega))
  · have ec : crsN (issueS s h) = crsN s := by
      unfold crsN
      rw [e9, show (s 619 + 1).toNat = (s 619).toNat + 1 by omega, sumI_s]
      have a1 : sumI (fun p => issueS s h (103 * p + 3)) (s 619).toNat = sumI (fun p => s (103 * p + 3)) (s 619).toNat := sumI_c fun i hi => n _ (by omega) (by omega)
      rw [a1]
      show _ + issueS s h (103 * ((s 619).toNat : Int) + 3) = _
      rw [show ((s 619).toNat : Int) = s 619 by omega, v.2.2.2.1]
      omega
    rw [ec, n 621 (by omega) (by omega)]
    exact hI.2.2
theorem dyS_n (h : Ok s) {j : Int} (hj : j ≠ 618) (h4 : ∀ i : Int, 0 ≤ i → i < 6 → j ≠ 103 * i + 4) : dayS s j = s j := by
  have hm := h.many
  unfold dayS
  rw [upI_n _ _ hj]
  exact overS_n _ (fun i h0 h1 => h4 i h0 (by omega))
theorem dysS_n (h : Ok s) {j : Int} (hj : j ≠ 618) (h4 : ∀ i : Int, 0 ≤ i → i < 6 → j ≠ 103 * i + 4) : ∀ k : Nat, s 618 + k ≤ 999 → daysS s k j = s j
  | 0, _ => rfl
  | k + 1, hk => by
    have h1 := h.daysS k (by omega)
    show dayS (daysS s k) j = s j
    rw [dyS_n h1.1 hj h4]
    exact dysS_n h hj h4 k (by omega)
theorem Inv.pass (h : Inv s e) {k : Nat} (hk : s 618 + k ≤ 999) : Inv (daysS s k) (e + 1) := by
  have hm := h.1.many
  have h1 := h.1.daysS k hk
  have n : ∀ j : Int, j ≠ 618 → (∀ i : Int, 0 ≤ i → i < 6 → j ≠ 103 * i + 4) → daysS s k j = s j := fun j j1 j2 => dysS_n h.1 j1 j2 k hk
  have ec : crsN (daysS s k) = crsN s := by
    unfold crsN
    rw [h1.2.2]
    exact sumI_c fun i hi => n _ (by omega) (fun z z0 z1 => by omega)
  refine ⟨h1.1, fun q h0 h1' => ?_, by rw [ec, n 621 (by omega) (fun z z0 z1 => by omega)]; exact h.2.2⟩
  rw [h1.2.2] at h1'
  exact (h.2.1 q h0 h1').cg (by omega) (fun w hw => n _ (by omega) (fun z z0 z1 => by omega))
end
theorem z0_inv {e : Int} : Inv z0 e := ⟨z0_ok, fun p h0 h1 => absurd (show p < 0 from h1) (by omega), by decide, by decide⟩
