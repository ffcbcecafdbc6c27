/-! THE ACTS OF A STATE: answer and numbers -/
def g_issue (s : Int → Int) (h : Int) : Int × (Int → Int) := if ¬ (0 ≤ h ∧ h ≤ 5) then (-1, s) else if s 619 = 6 then (-3, s) else (s 619, issueS s h)
def g_renew (s : Int → Int) (p : Int) : Int × (Int → Int) := if ¬ (0 ≤ p ∧ p ≤ s 619 - 1) then (-1, s) else (s (103 * p + 8), beginS s p (s (103 * p + 2)))
def g_grant (s : Int → Int) (p c a u d : Int) : Int × (Int → Int) := if errGrant s p c a u d ≠ 0 then (errGrant s p c a u d, s) else (usedOn (grantS s p c a u d) p c (grantS s p c a u d 618), grantS s p c a u d)
def g_revoke (s : Int → Int) (p c : Int) : Int × (Int → Int) := if ¬ areT s p c then (-1, s) else if ¬ hasV s p c then (-5, s) else (usedOn s p c (s 618), revokeS s p c)
def g_turn (s : Int → Int) (a b : Int) : Int × (Int → Int) := if ¬ ((0 ≤ a ∧ a ≤ 5) ∧ (0 ≤ b ∧ b ≤ 5)) then (-1, s) else if a = b then (-2, s) else (closedN (turnS s a b), turnS s a b)
def g_cross (s : Int → Int) (p c f : Int) : Int × (Int → Int) := if errCross s p c f ≠ 0 then (errCross s p c f, s) else (crossS s p c f (103 * p + 8), crossS s p c f)
def g_pass (s : Int → Int) (d : Int) : Int × (Int → Int) := if errPass s d ≠ 0 then (errPass s d, s) else (daysN s d.toNat, daysS s d.toNat)
def actA (A : AS) (g : Int × (Int → Int)) : Int × AS := if g.1 < 0 then (g.1, A) else (g.1, recA A g.2)
theorem RS.same {E : Ev} {M : Mem} {w n t : Nat} {s : Int → Int} {z : Int} (h : SR E M w n t s) : RS E M w n t (z, s) (some (.int (iI z))) n M := ⟨rfl, Nat.le_refl _, h, fun _ _ _ => rfl⟩
section
variable {s : Int → Int} {p : Int} {M : Mem}
theorem VisR.gen {t : Int → Int} {vs : Int → Option Nat} (h : VisR M s p vs) (hw : ∀ j : Int, 25 ≤ j → j < 43 → t (103 * p + j) = s (103 * p + j)) : VisR M t p vs := fun c h0 h1 => by
  have e0 : vOf t p c 0 = vOf s p c 0 := hw (25 + 3 * c + 0) (by omega) (by omega)
  have e1 : vOf t p c 1 = vOf s p c 1 := hw (25 + 3 * c + 1) (by omega) (by omega)
  have e2 : vOf t p c 2 = vOf s p c 2 := hw (25 + 3 * c + 2) (by omega) (by omega)
  rcases h c h0 h1 with ⟨a, b⟩ | ⟨u, a, b, d⟩
  · exact Or.inl ⟨a, by show ¬ 0 < vOf t p c 2; rw [e2]; exact b⟩
  · exact Or.inr ⟨u, a, by rw [e0, e1, e2]; exact b, by show 0 < vOf t p c 2; rw [e2]; exact d⟩
/-! issue -/
theorem begC_R {h : Int} {c : HC} (hm : 0 ≤ s 619 ∧ s 619 < 6) : HcR (issueS s h) (s 619) (begC c h (s 618)) := by
  obtain ⟨v9, v8, w0, w1, w2, w3⟩ := issueD_v (s := s) (h := h) hm
  have b := beginS_v (s := issueD s h) (p := s 619) (c := h) hm
  have n0 : ∀ j : Int, (j < 5 ∨ 8 < j) → issueS s h (103 * s 619 + j) = issueD s h (103 * s 619 + j) := fun j g1 => beginS_n (by omega)
  refine ⟨⟨((n0 0 (by omega)).trans w0).symm, ((n0 4 (by omega)).trans (w3 4 (by omega) (by omega))).symm, ?_, ((n0 3 (by omega)).trans (w3 3 (by omega) (by omega))).symm, b.2.2.1.symm⟩, fun i h0 hi => ?_, fun i h0 hi => ?_, fun r h0 hr => absurd (show r < 0 from hr) (by omega)⟩
  · show (0 : Int) + 1 = beginS (issueD s h) (s 619) h (103 * s 619 + 5)
    rw [b.2.2.2, w3 5 (by omega) (by omega)]
  · have hz : i = 0 := by have : i ≤ 0 := hi; omega
    subst hz
    show upI c.2.2.2.1 0 (s 618) 0 = jD (issueS s h) (s 619) 0 ∧ upI c.2.2.2.2.1 0 h 0 = jP (issueS s h) (s 619) 0
    rw [upI_s, upI_s]
    unfold jD jP
    rw [if_pos rfl, if_pos rfl]
    exact ⟨((n0 1 (by omega)).trans w1).symm, ((n0 0 (by omega)).trans w0).symm⟩
  · have hz : i = 0 := by have : i ≤ 0 := hi; omega
    subst hz
    show upI c.2.2.2.2.2.2.1 0 (s 618) 0 = bD (issueS s h) (s 619) 0 ∧ upI c.2.2.2.2.2.2.2.1 0 h 0 = bP (issueS s h) (s 619) 0
    rw [upI_s, upI_s]
    unfold bD bP
    rw [if_pos rfl, if_pos rfl]
    exact ⟨(b.2.1.trans v8).symm, b.1.symm⟩
theorem begV_R {h : Int} {vs : Int → Option Nat} (hm : 0 ≤ s 619 ∧ s 619 < 6) : VisR M (issueS s h) (s 619) (nulP vs 6) := fun c h0 h1 => by
  obtain ⟨v9, v8, w0, w1, w2, w3⟩ := issueD_v (s := s) (h := h) hm
  refine Or.inl ⟨if_pos ⟨h0, by omega⟩, ?_⟩
  show ¬ 0 < beginS (issueD s h) (s 619) h (103 * s 619 + (25 + 3 * c + 2))
  rw [beginS_n (by omega), w3 _ (by omega) (by omega)]
  omega
/-! renew -/
theorem bokC_R {c : HC} (h : HcR s p c) (hk : OkP s p) (hp : 0 ≤ p ∧ p < 6) : HcR (beginS s p (s (103 * p + 2))) p (bokC c (s 618)) := by
  have b := beginS_v (s := s) (p := p) (c := s (103 * p + 2)) hp
  have n0 : ∀ j : Int, (j < 5 ∨ 8 < j) → beginS s p (s (103 * p + 2)) (103 * p + j) = s (103 * p + j) := fun j g1 => beginS_n (by omega)
  have h1 := hk.crs
  have hh := hk.here
  generalize beginS s p (s (103 * p + 2)) = t at b n0 ⊢
  obtain ⟨⟨a1, a2, a3, a4, a5⟩, bb, cc, d⟩ := h
  have a4' : hcj c = s (103 * p + 3) := a4
  refine ⟨⟨a1.trans (n0 0 (by omega)).symm, a2.trans (n0 4 (by omega)).symm, ?_, a4.trans (n0 3 (by omega)).symm, b.2.2.1.symm⟩, fun i h0 hi => ?_, fun i h0 hi => ?_, fun r h0 hr => absurd (show r < 0 from hr) (by omega)⟩
  · show c.2.2.1 + 1 = _
    rw [b.2.2.2, a3]
  · have q := bb i h0 hi
    have hi2 : i ≤ hcj c := hi
    refine ⟨q.1.trans ?_, q.2.trans ?_⟩
    · unfold jD
      split
      · exact (n0 1 (by omega)).symm
      · rw [n0 (43 + (i - 1)) (by omega)]
    · unfold jP
      split
      · exact (n0 0 (by omega)).symm
      · rw [n0 (43 + (i - 1)) (by omega)]
  · have hz : i = 0 := by have : i ≤ 0 := hi; omega
    subst hz
    show upI c.2.2.2.2.2.2.1 0 (s 618) 0 = bD t p 0 ∧ upI c.2.2.2.2.2.2.2.1 0 (c.2.2.2.2.1 (hcj c)) 0 = bP t p 0
    rw [upI_s, upI_s]
    unfold bD bP
    rw [if_pos rfl, if_pos rfl]
    refine ⟨b.2.1.symm, ?_⟩
    rw [b.1, hh, ← a4']
    exact (bb (hcj c) (by omega) (Int.le_refl _)).2
/-! cross -/
theorem hcv_mov {c : HC} {pl k dy f : Int} : hcv (movC c pl k dy f) = hcv c := by
  unfold movC mvB mvA
  repeat' split
  all_goals rfl
theorem crossS_621 {k f : Int} (hp : 0 ≤ p ∧ p < 6) (hf : 0 ≤ f ∧ f ≤ 3) (h8 : 0 ≤ s (103 * p + 8) ∧ s (103 * p + 8) + (2 - f % 2 - f / 2) ≤ 16) (h3 : 0 ≤ s (103 * p + 3) ∧ s (103 * p + 3) < 60) : crossS s p k f 621 = s 621 + (f % 2 + f / 2) := by
  have n3 : _ := crossB_n (s := s) (p := p) (c := k) (f := f) (j := 103 * p + 3) (Or.inl (by omega)) hf h8
  have c3 : crossC s p k f (103 * p + 3) = s (103 * p + 3) := by unfold crossC; rw [upI_n _ _ (by omega)]; exact n3
  unfold crossS crossE crossD
  rw [upI_n _ _ (by omega), upI_n _ _ (by omega), upI_n _ _ (by omega)]
  unfold crossC
  rw [upI_s, crossB_n (by omega) hf h8]
theorem movC_R {c : HC} {k f : Int} (h : HcR s p c) (hk : OkP s p) (hp : 0 ≤ p ∧ p < 6) (hc : 0 ≤ k ∧ k ≤ 5) (hf : 0 ≤ f ∧ f ≤ 3) (h8 : s (103 * p + 8) + (2 - f % 2 - f / 2) ≤ 16) (h3 : s (103 * p + 3) < 60) : HcR (crossS s p k f) p (movC c (s (103 * p + 2)) k (s 618) f) := by
  have hs8 := hk.stm
  have hs3 := hk.crs
  have hbd := hk.bgo
  have hA : HcR (crossA s p f) p (mvA c (s (103 * p + 2)) (s 618) f) := by
    unfold crossA mvA
    by_cases q : f % 2 = 0
    · rw [if_pos q, if_pos q]
      exact HolR.stm h hk (by omega) hk.whr (Or.inl rfl)
    · rw [if_neg q, if_neg q]; exact h
  have hkA : OkP (crossA s p f) p := by
    unfold crossA
    split
    · exact hk.stamp hp (by omega) hk.whr (by omega)
    · exact hk
  have dA : crossA s p f 618 = s 618 := crossA_n (Or.inr (by omega)) ⟨hs8.1, fun _ => by omega⟩
  have A8 := crossA_8 (s := s) (p := p) (f := f) hs8.1 hf.1
  have hB : HcR (crossB s p k f) p (mvB c (s (103 * p + 2)) k (s 618) f) := by
    unfold crossB mvB
    by_cases q : f < 2
    · rw [if_pos q, if_pos (by omega)]
      have h9 := HolR.stm hA hkA (by omega) hc (Or.inr rfl)
      rw [dA] at h9
      exact h9
    · rw [if_neg q, if_neg (by omega)]; exact hA
  have hkB := hk.crossB hp hc hf h8
  have n3 : _ := crossB_n (s := s) (p := p) (c := k) (f := f) (j := 103 * p + 3) (Or.inl (by omega)) hf ⟨hs8.1, h8⟩
  have nd : _ := crossB_n (s := s) (p := p) (c := k) (f := f) (j := 618) (Or.inr (by omega)) hf ⟨hs8.1, h8⟩
  have hC : HcR (crossC s p k f) p (mvB c (s (103 * p + 2)) k (s 618) f) := HolR.gen hB hkB (fun j g1 g2 _ _ _ => by unfold crossC; rw [upI_n _ _ (by omega)]) (hB.1.2.1.trans (by unfold crossC; rw [upI_n _ _ (by omega)])) (hB.1.2.2.1.trans (by unfold crossC; rw [upI_n _ _ (by omega)]))
  have hkC : OkP (crossC s p k f) p := hkB.cg (fun w h4 h5 _ _ => by unfold crossC; rw [upI_n _ _ (by omega)]) (by unfold crossC; rw [upI_n _ _ (by omega)]; omega)
  have c3 : crossC s p k f (103 * p + 3) = s (103 * p + 3) := by unfold crossC; rw [upI_n _ _ (by omega)]; exact n3
  have dC : crossC s p k f 618 = s 618 := by unfold crossC; rw [upI_n _ _ (by omega)]; exact nd
  have hW := HolR.wnt hC hkC hc
  have e : crossS s p k f = upI (upI (upI (crossC s p k f) (103 * p + (43 + crossC s p k f (103 * p + 3))) (6 * crossC s p k f 618 + k)) (103 * p + 3) (crossC s p k f (103 * p + 3) + 1)) (103 * p + 2) k := by
    unfold crossS crossE
    rw [show crossD s p k f (103 * p + 3) = crossC s p k f (103 * p + 3) by unfold crossD; rw [upI_n _ _ (by omega)]]
    rfl
  have e9 : movC c (s (103 * p + 2)) k (s 618) f = joC (mvB c (s (103 * p + 2)) k (s 618) f) k (crossC s p k f 618) := by rw [dC]; rfl
  rw [e, e9]
  exact hW
/-! a day's end -/
theorem over_iff {k : Nat} (hk : OkP s k) (h6 : k < 6) : isOver (overS s k) k ↔ ¬ mayBe s k (s (103 * (k : Int) + 2)) (s 618) := by
  have hw := overS_w (s := s) k (by omega) (q := (k : Int)) (by omega)
  have h2 := hk.whr
  have e2 := hw 2 (by omega) (by omega) (by omega) (by omega)
  have e0 := hw 0 (by omega) (by omega) (by omega) (by omega)
  have e8 := overS_h (s := s) k (by omega) (j := 618) (by omega)
  have hwb : sameB s (overS s k) k := fun j g1 g2 g3 g4 _ => hw j g1 g2 g3 g4
  have v0 : ∀ q : Int, 0 ≤ q → q < 3 → vOf (overS s k) k (s (103 * (k : Int) + 2)) q = vOf s k (s (103 * (k : Int) + 2)) q := fun q g1 g2 => hw _ (by omega) (by omega) (by omega) (by omega)
  unfold isOver mayBe validOn usedOn
  rw [e2, e0, e8, v0 0 (by omega) (by omega), v0 1 (by omega) (by omega), v0 2 (by omega) (by omega), told_g hk hwb]
  constructor
  · rintro ⟨a, b⟩ w
    rcases w with w | w
    · exact a w.symm
    · exact b w
  · intro w
    exact ⟨fun a => w (Or.inl a.symm), fun b => w (Or.inr b)⟩
theorem overN_e (hO : Ok s) : ∀ k : Nat, (k : Int) ≤ s 619 → overN s k = sumI (fun i => bI (¬ mayBe s i (s (103 * i + 2)) (s 618))) k
  | 0, _ => rfl
  | k + 1, h => by
    have hm := hO.many
    have e : overN s (k + 1) = overN s k + bI (isOver (overS s k) k) := rfl
    rw [e, sumI_s, ← overN_e hO k (by omega), bI_e (over_iff (hO.at (p := (k : Int)) (by omega) (by omega)) (by omega))]
theorem overS_4 (hO : Ok s) : ∀ k : Nat, (k : Int) ≤ s 619 → ∀ i : Nat, i < k → overS s k (103 * (i : Int) + 4) = s (103 * (i : Int) + 4) + bI (¬ mayBe s i (s (103 * (i : Int) + 2)) (s 618))
  | 0, _, i, hi => absurd hi (by omega)
  | k + 1, h, i, hi => by
    have hm := hO.many
    unfold overS
    by_cases q : i = k
    · subst q
      rw [upI_s, overS_n i (fun j g1 g2 => by omega), bI_e (over_iff (hO.at (p := (i : Int)) (by omega) (by omega)) (by omega))]
    · rw [upI_n _ _ (by omega)]
      exact overS_4 hO k (by omega) i (by omega)
theorem ovC_at {C : Nat → HC} : ∀ k : Nat, ∀ i : Nat, i < k → ovC s C k i = if mayBe s i (s (103 * (i : Int) + 2)) (s 618) then C i else osC (C i)
  | 0, i, hi => absurd hi (by omega)
  | k + 1, i, hi => by
    by_cases q : i = k
    · subst q
      by_cases w : mayBe s i (s (103 * (i : Int) + 2)) (s 618)
      · rw [ovC_t (h := w), if_pos w, ovC_i]
      · rw [ovC_f (h := w), if_neg w, upC_s]
    · rw [← ovC_at k i (by omega)]
      by_cases w : mayBe s k (s (103 * (k : Int) + 2)) (s 618)
      · rw [ovC_t (h := w)]
      · rw [ovC_f (h := w), upC_n q]
end
