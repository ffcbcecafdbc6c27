/-! the acts keep what holds of a state -/
section
variable {s t : Int → Int} {p : Int}
theorem bD_c (hw : ∀ w, 0 ≤ w → w < 103 → w ≠ 4 → w ≠ 5 → t (103 * p + w) = s (103 * p + w)) {k : Int} (h : 0 ≤ k ∧ k ≤ 16) : bD t p k = bD s p k := by
  unfold bD stD
  split
  · exact hw 7 (by omega) (by omega) (by omega) (by omega)
  · rw [hw (9 + (k - 1)) (by omega) (by omega) (by omega) (by omega)]
theorem bP_c (hw : ∀ w, 0 ≤ w → w < 103 → w ≠ 4 → w ≠ 5 → t (103 * p + w) = s (103 * p + w)) {k : Int} (h : 0 ≤ k ∧ k ≤ 16) : bP t p k = bP s p k := by
  unfold bP stC
  split
  · exact hw 6 (by omega) (by omega) (by omega) (by omega)
  · rw [hw (9 + (k - 1)) (by omega) (by omega) (by omega) (by omega)]
theorem jD_c (hw : ∀ w, 0 ≤ w → w < 103 → w ≠ 4 → w ≠ 5 → t (103 * p + w) = s (103 * p + w)) {k : Int} (h : 0 ≤ k ∧ k ≤ 60) : jD t p k = jD s p k := by
  unfold jD
  split
  · exact hw 1 (by omega) (by omega) (by omega) (by omega)
  · rw [hw (43 + (k - 1)) (by omega) (by omega) (by omega) (by omega)]
theorem jP_c (hw : ∀ w, 0 ≤ w → w < 103 → w ≠ 4 → w ≠ 5 → t (103 * p + w) = s (103 * p + w)) {k : Int} (h : 0 ≤ k ∧ k ≤ 60) : jP t p k = jP s p k := by
  unfold jP
  split
  · exact hw 0 (by omega) (by omega) (by omega) (by omega)
  · rw [hw (43 + (k - 1)) (by omega) (by omega) (by omega) (by omega)]
theorem vOf_c (hw : ∀ w, 0 ≤ w → w < 103 → w ≠ 4 → w ≠ 5 → t (103 * p + w) = s (103 * p + w)) {c k : Int} (h : 0 ≤ c ∧ c < 6) (hk : 0 ≤ k ∧ k < 3) : vOf t p c k = vOf s p c k := hw (25 + 3 * c + k) (by omega) (by omega) (by omega) (by omega)
theorem OkP.cg (h : OkP s p) (hw : ∀ w, 0 ≤ w → w < 103 → w ≠ 4 → w ≠ 5 → t (103 * p + w) = s (103 * p + w)) (hd : s 618 ≤ t 618 ∧ t 618 ≤ 999) : OkP t p := by
  have e0 := hw 0 (by omega) (by omega) (by omega) (by omega)
  have e1 := hw 1 (by omega) (by omega) (by omega) (by omega)
  have e2 := hw 2 (by omega) (by omega) (by omega) (by omega)
  have e3 := hw 3 (by omega) (by omega) (by omega) (by omega)
  have e6 := hw 6 (by omega) (by omega) (by omega) (by omega)
  have e7 := hw 7 (by omega) (by omega) (by omega) (by omega)
  have e8 := hw 8 (by omega) (by omega) (by omega) (by omega)
  have h8 := h.stm
  have h3 := h.crs
  have hb := h.bgo
  refine ⟨by rw [e0]; exact h.home, by rw [e1, e7]; exact h.iss, by rw [e2]; exact h.whr, by rw [e3]; exact h.crs, by rw [e6]; exact h.bgn, by rw [e7]; omega, by rw [e8]; exact h.stm, ?_, ?_, ?_, ?_, ?_, ?_⟩
  · intro r h0 h1
    rw [e8] at h1
    rw [hw (9 + r) (by omega) (by omega) (by omega) (by omega)]
    exact h.st h0 h1
  · intro r h0 h1
    rw [e8] at h1
    rw [bD_c hw (by omega), bD_c hw (by omega)]
    have := h.bd h0 h1
    omega
  · intro c h0 h1
    rw [vOf_c hw ⟨h0, h1⟩ (by omega), vOf_c hw ⟨h0, h1⟩ (by omega), vOf_c hw ⟨h0, h1⟩ (by omega)]
    exact h.vis h0 h1
  · intro k h0 h1
    rw [e3] at h1
    rw [hw (43 + k) (by omega) (by omega) (by omega) (by omega)]
    exact h.cr h0 h1
  · intro k h0 h1
    rw [e3] at h1
    rw [jD_c hw (by omega), jD_c hw (by omega)]
    have := h.jd h0 h1
    omega
  · rw [e2, e3, jP_c hw (by omega)]
    exact h.here
/-- the day up to which a book tells is not after today -/
theorem OkP.bdk (h : OkP s p) {k : Int} (hk : 0 ≤ k ∧ k ≤ s (103 * p + 8)) : bD s p k ≤ s 618 := by
  have hb := h.bgo
  by_cases h0 : k = 0
  · subst h0; rw [bD, if_pos rfl]; omega
  · have := (h.bd (r := k - 1) (by omega) (by omega)).2
    rwa [show k - 1 + 1 = k by omega] at this
theorem OkP.jdk (h : OkP s p) {k : Int} (hk : 0 ≤ k ∧ k ≤ s (103 * p + 3)) : jD s p k ≤ s 618 := by
  have hb := h.bgo
  have hi := h.iss
  by_cases h0 : k = 0
  · subst h0; rw [jD, if_pos rfl]; omega
  · have := (h.jd (k := k - 1) (by omega) (by omega)).2
    rwa [show k - 1 + 1 = k by omega] at this
theorem OkP.stamp {c e : Int} (h : OkP s p) (hp : 0 ≤ p ∧ p < 6) (hk : s (103 * p + 8) < 16) (hc : 0 ≤ c ∧ c ≤ 5) (he : 0 ≤ e ∧ e ≤ 1) : OkP (stampS s p c e) p := by
  have h8 := h.stm
  have h3 := h.crs
  have hb := h.bgo
  have t8 := stampS_8 (c := c) (e := e) h8.1
  have tv := stampS_v (c := c) (e := e) h8.1
  have tn : ∀ j : Int, j ≠ 103 * p + 8 → j ≠ 103 * p + (9 + s (103 * p + 8)) → stampS s p c e j = s j := fun j h1 h2 => stampS_n h1 h2
  have td : stampS s p c e 618 = s 618 := tn 618 (by omega) (by omega)
  generalize stampS s p c e = t at t8 tv tn td ⊢
  have eb : ∀ k : Int, 0 ≤ k → k ≤ s (103 * p + 8) → bD t p k = bD s p k := fun k h0 h1 => by
    unfold bD stD
    split
    · exact tn _ (by omega) (by omega)
    · rw [tn _ (by omega) (by omega)]
  have ek : bD t p (s (103 * p + 8) + 1) = s 618 := by
    unfold bD stD
    rw [if_neg (by omega), show s (103 * p + 8) + 1 - 1 = s (103 * p + 8) by omega, tv]
    omega
  have ej : ∀ k : Int, 0 ≤ k → k ≤ 60 → jD t p k = jD s p k := fun k h0 h1 => by
    unfold jD
    split
    · exact tn _ (by omega) (by omega)
    · rw [tn _ (by omega) (by omega)]
  have eq : ∀ k : Int, 0 ≤ k → k ≤ 60 → jP t p k = jP s p k := fun k h0 h1 => by
    unfold jP
    split
    · exact tn _ (by omega) (by omega)
    · rw [tn _ (by omega) (by omega)]
  have e3 : t (103 * p + 3) = s (103 * p + 3) := tn _ (by omega) (by omega)
  have e7 : t (103 * p + 7) = s (103 * p + 7) := tn _ (by omega) (by omega)
  refine ⟨by rw [tn _ (by omega) (by omega)]; exact h.home, by rw [tn _ (by omega) (by omega), e7]; exact h.iss, by rw [tn _ (by omega) (by omega)]; exact h.whr, by rw [e3]; exact h.crs, by rw [tn _ (by omega) (by omega)]; exact h.bgn, by rw [e7, td]; exact h.bgo, by rw [t8]; omega, ?_, ?_, ?_, ?_, ?_, ?_⟩
  · intro r h0 h1
    rw [t8] at h1
    by_cases hr : r = s (103 * p + 8)
    · rw [hr, tv]; omega
    · rw [tn _ (by omega) (by omega)]
      exact h.st h0 (by omega)
  · intro r h0 h1
    rw [t8] at h1
    rw [td]
    by_cases hr : r = s (103 * p + 8)
    · rw [hr, ek, eb _ h8.1 (by omega)]
      exact ⟨h.bdk ⟨h8.1, by omega⟩, by omega⟩
    · rw [eb _ h0 (by omega), eb _ (by omega) (by omega)]
      exact h.bd h0 (by omega)
  · intro c h0 h1
    have ev : ∀ k : Int, 0 ≤ k → k < 3 → vOf t p c k = vOf s p c k := fun k h2 h3 => tn _ (by omega) (by omega)
    rw [ev _ (by omega) (by omega), ev _ (by omega) (by omega), ev _ (by omega) (by omega)]
    exact h.vis h0 h1
  · intro k h0 h1
    rw [e3] at h1
    rw [tn _ (by omega) (by omega)]
    exact h.cr h0 h1
  · intro k h0 h1
    rw [e3] at h1
    rw [ej _ h0 (by omega), ej _ (by omega) (by omega), td]
    exact h.jd h0 h1
  · rw [e3, tn _ (by omega) (by omega), eq _ (by omega) (by omega)]
    exact h.here
theorem OkP.went {c : Int} (h : OkP s p) (hp : 0 ≤ p ∧ p < 6) (hk : s (103 * p + 3) < 60) (hc : 0 ≤ c ∧ c ≤ 5) : OkP (upI (upI (upI s (103 * p + (43 + s (103 * p + 3))) (6 * s 618 + c)) (103 * p + 3) (s (103 * p + 3) + 1)) (103 * p + 2) c) p := by
  have h8 := h.stm
  have h3 := h.crs
  have hb := h.bgo
  have tn : ∀ j : Int, j ≠ 103 * p + 2 → j ≠ 103 * p + 3 → j ≠ 103 * p + (43 + s (103 * p + 3)) → upI (upI (upI s (103 * p + (43 + s (103 * p + 3))) (6 * s 618 + c)) (103 * p + 3) (s (103 * p + 3) + 1)) (103 * p + 2) c j = s j := fun j h1 h2 h3 => by rw [upI_n _ _ h1, upI_n _ _ h2, upI_n _ _ h3]
  have t2 : upI (upI (upI s (103 * p + (43 + s (103 * p + 3))) (6 * s 618 + c)) (103 * p + 3) (s (103 * p + 3) + 1)) (103 * p + 2) c (103 * p + 2) = c := upI_s _ _ _
  have t3 : upI (upI (upI s (103 * p + (43 + s (103 * p + 3))) (6 * s 618 + c)) (103 * p + 3) (s (103 * p + 3) + 1)) (103 * p + 2) c (103 * p + 3) = s (103 * p + 3) + 1 := by rw [upI_n _ _ (by omega), upI_s]
  have tv : upI (upI (upI s (103 * p + (43 + s (103 * p + 3))) (6 * s 618 + c)) (103 * p + 3) (s (103 * p + 3) + 1)) (103 * p + 2) c (103 * p + (43 + s (103 * p + 3))) = 6 * s 618 + c := by rw [upI_n _ _ (by omega), upI_n _ _ (by omega), upI_s]
  generalize upI (upI (upI s (103 * p + (43 + s (103 * p + 3))) (6 * s 618 + c)) (103 * p + 3) (s (103 * p + 3) + 1)) (103 * p + 2) c = t at tn t2 t3 tv ⊢
  have td : t 618 = s 618 := tn 618 (by omega) (by omega) (by omega)
  have eb : ∀ k : Int, 0 ≤ k → k ≤ 16 → bD t p k = bD s p k := fun k h0 h1 => by
    unfold bD stD
    split
    · exact tn _ (by omega) (by omega) (by omega)
    · rw [tn _ (by omega) (by omega) (by omega)]
  have ej : ∀ k : Int, 0 ≤ k → k ≤ s (103 * p + 3) → jD t p k = jD s p k := fun k h0 h1 => by
    unfold jD
    split
    · exact tn _ (by omega) (by omega) (by omega)
    · rw [tn _ (by omega) (by omega) (by omega)]
  have ek : jD t p (s (103 * p + 3) + 1) = s 618 := by
    unfold jD
    rw [if_neg (by omega), show s (103 * p + 3) + 1 - 1 = s (103 * p + 3) by omega, tv]
    omega
  have eq : jP t p (s (103 * p + 3) + 1) = c := by
    unfold jP
    rw [if_neg (by omega), show s (103 * p + 3) + 1 - 1 = s (103 * p + 3) by omega, tv]
    omega
  have e8 : t (103 * p + 8) = s (103 * p + 8) := tn _ (by omega) (by omega) (by omega)
  have e7 : t (103 * p + 7) = s (103 * p + 7) := tn _ (by omega) (by omega) (by omega)
  refine ⟨by rw [tn _ (by omega) (by omega) (by omega)]; exact h.home, by rw [tn _ (by omega) (by omega) (by omega), e7]; exact h.iss, by rw [t2]; exact hc, by rw [t3]; omega, by rw [tn _ (by omega) (by omega) (by omega)]; exact h.bgn, by rw [e7, td]; exact h.bgo, by rw [e8]; exact h.stm, ?_, ?_, ?_, ?_, ?_, ?_⟩
  · intro r h0 h1
    rw [e8] at h1
    rw [tn _ (by omega) (by omega) (by omega)]
    exact h.st h0 h1
  · intro r h0 h1
    rw [e8] at h1
    rw [td, eb _ h0 (by omega), eb _ (by omega) (by omega)]
    exact h.bd h0 h1
  · intro c h0 h1
    have ev : ∀ k : Int, 0 ≤ k → k < 3 → vOf t p c k = vOf s p c k := fun k h2 h3 => tn _ (by omega) (by omega) (by omega)
    rw [ev _ (by omega) (by omega), ev _ (by omega) (by omega), ev _ (by omega) (by omega)]
    exact h.vis h0 h1
  · intro k h0 h1
    rw [t3] at h1
    by_cases hr : k = s (103 * p + 3)
    · rw [hr, tv]; omega
    · rw [tn _ (by omega) (by omega) (by omega)]
      exact h.cr h0 (by omega)
  · intro k h0 h1
    rw [t3] at h1
    rw [td]
    by_cases hr : k = s (103 * p + 3)
    · rw [hr, ek, ej _ h3.1 (by omega)]
      exact ⟨h.jdk ⟨h3.1, by omega⟩, by omega⟩
    · rw [ej _ h0 (by omega), ej _ (by omega) (by omega)]
      exact h.jd h0 (by omega)
  · rw [t2, t3, eq]
/-- an act on one passport -/
theorem Ok.one (h : Ok s) (hp : 0 ≤ p ∧ p < s 619) (h1 : OkP t p) (hw : ∀ j : Int, ¬ (103 * p ≤ j ∧ j < 103 * p + 103) → j ≠ 621 → t j = s j) : Ok t := by
  have hm := h.many
  have hd := h.day
  have e0 := hw 618 (by omega) (by omega)
  have e1 := hw 619 (by omega) (by omega)
  have e2 := hw 620 (by omega) (by omega)
  refine ⟨by rw [e0]; exact h.day, by rw [e1]; exact h.many, by rw [e2]; exact h.clo, fun q h2 h3 => ?_⟩
  rw [e1] at h3
  by_cases hq : q = p
  · rw [hq]; exact h1
  · exact (h.at h2 h3).cg (fun w h4 h5 _ _ => hw _ (by omega) (by omega)) (by omega)
theorem crossA_n {f j : Int} (h : j < 103 * p + 8 ∨ 103 * p + 25 ≤ j) (h8 : 0 ≤ s (103 * p + 8) ∧ (f % 2 = 0 → s (103 * p + 8) < 16)) : crossA s p f j = s j := by
  unfold crossA
  split
  · exact stampS_n (by omega) (by omega)
  · rfl
theorem crossA_8 {f : Int} (h8 : 0 ≤ s (103 * p + 8)) (hf : 0 ≤ f) : crossA s p f (103 * p + 8) = s (103 * p + 8) + (1 - f % 2) := by
  unfold crossA
  split
  · rw [stampS_8 h8]; omega
  · omega
theorem crossB_n {c f j : Int} (h : j < 103 * p + 8 ∨ 103 * p + 25 ≤ j) (hf : 0 ≤ f ∧ f ≤ 3) (h8 : 0 ≤ s (103 * p + 8) ∧ s (103 * p + 8) + (2 - f % 2 - f / 2) ≤ 16) : crossB s p c f j = s j := by
  have ha := crossA_8 (f := f) h8.1 hf.1
  unfold crossB
  split
  · rw [stampS_n (by omega) (by omega)]; exact crossA_n h (by omega)
  · exact crossA_n h (by omega)
theorem OkP.crossB {c f : Int} (h : OkP s p) (hp : 0 ≤ p ∧ p < 6) (hc : 0 ≤ c ∧ c ≤ 5) (hf : 0 ≤ f ∧ f ≤ 3) (hk : s (103 * p + 8) + (2 - f % 2 - f / 2) ≤ 16) : OkP (crossB s p c f) p := by
  have h8 := h.stm
  have ha : OkP (crossA s p f) p := by
    unfold crossA
    split
    · exact h.stamp hp (by omega) h.whr (by omega)
    · exact h
  have hb := crossA_8 (f := f) h8.1 hf.1
  unfold Jvm.Pilot.@@N@@.crossB
  split
  · exact ha.stamp hp (by omega) hc (by omega)
  · exact ha
theorem OkP.cross {c f : Int} (h : OkP s p) (hp : 0 ≤ p ∧ p < 6) (hc : 0 ≤ c ∧ c ≤ 5) (hf : 0 ≤ f ∧ f ≤ 3) (hk : s (103 * p + 8) + (2 - f % 2 - f / 2) ≤ 16) (h3 : s (103 * p + 3) < 60) : OkP (crossS s p c f) p := by
  have h8 := h.stm
  have hb := h.crossB hp hc hf hk
  have n3 : _ := crossB_n (s := s) (p := p) (c := c) (f := f) (j := 103 * p + 3) (Or.inl (by omega)) hf ⟨h8.1, hk⟩
  have hbd := h.bgo
  have nd : _ := crossB_n (s := s) (p := p) (c := c) (f := f) (j := 618) (Or.inr (by omega)) hf ⟨h8.1, hk⟩
  have hC : OkP (crossC s p c f) p := hb.cg (fun w h4 h5 _ _ => by unfold crossC; rw [upI_n _ _ (by omega)]) (by unfold crossC; rw [upI_n _ _ (by omega)]; omega)
  have c3 : crossC s p c f (103 * p + 3) = s (103 * p + 3) := by unfold crossC; rw [upI_n _ _ (by omega)]; exact n3
  have := hC.went (c := c) hp (by omega) hc
  have e : crossS s p c f = upI (upI (upI (crossC s p c f) (103 * p + (43 + crossC s p c f (103 * p + 3))) (6 * crossC s p c f 618 + c)) (103 * p + 3) (crossC s p c f (103 * p + 3) + 1)) (103 * p + 2) c := by
    have h3' := h.crs
    unfold crossS crossE
    rw [show crossD s p c f (103 * p + 3) = crossC s p c f (103 * p + 3) by unfold crossD; rw [upI_n _ _ (by omega)]]
    rfl
  rw [e]; exact this
theorem crossS_n {c f j : Int} (h : ¬ (103 * p ≤ j ∧ j < 103 * p + 103)) (hj : j ≠ 621) (hp : 0 ≤ p ∧ p < 6) (hf : 0 ≤ f ∧ f ≤ 3) (h8 : 0 ≤ s (103 * p + 8) ∧ s (103 * p + 8) + (2 - f % 2 - f / 2) ≤ 16) (h3 : 0 ≤ s (103 * p + 3) ∧ s (103 * p + 3) < 60) : crossS s p c f j = s j := by
  have n3 : _ := crossB_n (s := s) (p := p) (c := c) (f := f) (j := 103 * p + 3) (Or.inl (by omega)) hf h8
  have c3 : crossC s p c f (103 * p + 3) = s (103 * p + 3) := by unfold crossC; rw [upI_n _ _ (by omega)]; exact n3
  unfold crossS crossE crossD
  rw [upI_n _ _ (by omega), upI_n _ _ (by omega), upI_n _ _ (by omega)]
  unfold crossC
  rw [upI_n _ _ (by omega)]
  exact crossB_n (by omega) hf h8
theorem Ok.cross {c f : Int} (h : Ok s) (hp : 0 ≤ p ∧ p < s 619) (hc : 0 ≤ c ∧ c ≤ 5) (hf : 0 ≤ f ∧ f ≤ 3) (hk : s (103 * p + 8) + (2 - f % 2 - f / 2) ≤ 16) (h3 : s (103 * p + 3) < 60) : Ok (crossS s p c f) := by
  have hm := h.many
  have hP := h.at hp.1 hp.2
  exact h.one hp (hP.cross ⟨hp.1, by omega⟩ hc hf hk h3) (fun j h1 h2 => crossS_n h1 h2 ⟨hp.1, by omega⟩ hf ⟨hP.stm.1, hk⟩ ⟨hP.crs.1, h3⟩)
/-- when nothing hinders -/
theorem hindr_ok {c k : Int} (h : OkP s p) (hh : hindr s p c k = 0) : s (103 * p + 8) + k ≤ 16 ∧ s (103 * p + 3) < 60 ∧ s (103 * p + 2) ≠ c := by
  have h3 := h.crs
  unfold hindr at hh
  split at hh
  · omega
  · split at hh
    · omega
    · split at hh
      · omega
      · split at hh
        · omega
        · split at hh
          · omega
          · split at hh
            · omega
            · refine ⟨by omega, by omega, by assumption⟩
end
