section
variable {s t : Int → Int} {p : Int}
theorem overS_n : ∀ (k : Nat) {j : Int}, (∀ i : Int, 0 ≤ i → i < k → j ≠ 103 * i + 4) → overS s k j = s j
  | 0, _, _ => rfl
  | k + 1, j, h => by
    unfold overS
    rw [upI_n _ _ (h k (by omega) (by omega))]
    exact overS_n k (fun i h0 h1 => h i h0 (by omega))
theorem overS_w (k : Nat) (hk : k ≤ 6) {q : Int} (hq : 0 ≤ q) : ∀ w, 0 ≤ w → w < 103 → w ≠ 4 → w ≠ 5 → overS s k (103 * q + w) = s (103 * q + w) := fun w h0 h1 h2 _ => overS_n k (fun i h3 h4 => by omega)
theorem overS_h (k : Nat) (hk : k ≤ 6) {j : Int} (hj : 618 ≤ j) : overS s k j = s j := overS_n k (fun i h3 h4 => by omega)
theorem Ok.over (h : Ok s) (k : Nat) (hk : k ≤ 6) : Ok (overS s k) := by
  have hd := h.day
  have e0 := overS_h (s := s) k hk (j := 618) (by omega)
  have e1 := overS_h (s := s) k hk (j := 619) (by omega)
  have e2 := overS_h (s := s) k hk (j := 620) (by omega)
  refine ⟨by rw [e0]; exact h.day, by rw [e1]; exact h.many, by rw [e2]; exact h.clo, fun q h2 h3 => ?_⟩
  rw [e1] at h3
  exact (h.at h2 h3).cg (overS_w k hk h2) (by omega)
theorem Ok.dayS (h : Ok s) (hd : s 618 < 999) : Ok (dayS s) := by
  have hm := h.many
  have ho := h.over (s 619).toNat (by omega)
  have e0 := overS_h (s := s) (s 619).toNat (by omega) (j := 618) (by omega)
  have n : ∀ j : Int, j ≠ 618 → Jvm.Pilot.@@N@@.dayS s j = overS s (s 619).toNat j := fun j hj => upI_n _ _ hj
  have nd : Jvm.Pilot.@@N@@.dayS s 618 = s 618 + 1 := by unfold Jvm.Pilot.@@N@@.dayS; rw [upI_s, e0]
  have hdd := h.day
  refine ⟨by rw [nd]; omega, by rw [n _ (by omega)]; exact ho.many, by rw [n _ (by omega)]; exact ho.clo, fun q h2 h3 => ?_⟩
  rw [n _ (by omega)] at h3
  have hm2 := ho.many
  exact (ho.at h2 h3).cg (fun w h4 h5 _ _ => n _ (by omega)) (by rw [nd, e0]; omega)
theorem dayS_618 (h : Ok s) : dayS s 618 = s 618 + 1 := by
  have hm := h.many
  unfold dayS
  rw [upI_s, overS_h _ (by omega) (by omega)]
theorem dayS_619 (h : Ok s) : dayS s 619 = s 619 := by
  have hm := h.many
  unfold dayS
  rw [upI_n _ _ (by omega), overS_h _ (by omega) (by omega)]
theorem Ok.daysS (h : Ok s) : ∀ k : Nat, s 618 + k ≤ 999 → Ok (daysS s k) ∧ Jvm.Pilot.@@N@@.daysS s k 618 = s 618 + k ∧ Jvm.Pilot.@@N@@.daysS s k 619 = s 619
  | 0, _ => ⟨h, by simp [Jvm.Pilot.@@N@@.daysS], rfl⟩
  | k + 1, hk => by
    obtain ⟨h1, h2, h3⟩ := h.daysS k (by omega)
    refine ⟨h1.dayS (by omega), ?_, ?_⟩
    · show Jvm.Pilot.@@N@@.dayS (Jvm.Pilot.@@N@@.daysS s k) 618 = _
      rw [dayS_618 h1, h2]; omega
    · show Jvm.Pilot.@@N@@.dayS (Jvm.Pilot.@@N@@.daysS s k) 619 = _
      rw [dayS_619 h1, h3]
theorem grantS_n {c a u d j : Int} (h : j < 103 * p + (25 + 3 * c) ∨ 103 * p + (25 + 3 * c) + 2 < j) : grantS s p c a u d j = s j := by
  unfold grantS
  rw [upI_n _ _ (by omega), upI_n _ _ (by omega), upI_n _ _ (by omega)]
theorem grantS_v {c a u d : Int} : vOf (grantS s p c a u d) p c 0 = a ∧ vOf (grantS s p c a u d) p c 1 = u ∧ vOf (grantS s p c a u d) p c 2 = d := by
  refine ⟨?_, ?_, ?_⟩
  · show grantS s p c a u d (103 * p + (25 + 3 * c + 0)) = a
    unfold grantS; rw [upI_n _ _ (by omega), upI_n _ _ (by omega), show 103 * p + (25 + 3 * c + 0) = 103 * p + (25 + 3 * c) by omega, upI_s]
  · show grantS s p c a u d (103 * p + (25 + 3 * c + 1)) = u
    unfold grantS; rw [upI_n _ _ (by omega), show 103 * p + (25 + 3 * c + 1) = 103 * p + (25 + 3 * c) + 1 by omega, upI_s]
  · show grantS s p c a u d (103 * p + (25 + 3 * c + 2)) = d
    unfold grantS; rw [show 103 * p + (25 + 3 * c + 2) = 103 * p + (25 + 3 * c) + 2 by omega, upI_s]
/-- only visas have changed -/
theorem OkP.visas (h : OkP s p) (hp : 0 ≤ p ∧ p < 6) (hn : ∀ j : Int, j < 103 * p + 25 ∨ 103 * p + 43 ≤ j → t j = s j) (hv : ∀ c, 0 ≤ c → c < 6 → (0 ≤ vOf t p c 0 ∧ vOf t p c 0 ≤ 999) ∧ (0 ≤ vOf t p c 1 ∧ vOf t p c 1 ≤ 999) ∧ (0 ≤ vOf t p c 2 ∧ vOf t p c 2 ≤ 99)) : OkP t p := by
  have h8 := h.stm
  have h3 := h.crs
  have td : t 618 = s 618 := hn 618 (by omega)
  have eb : ∀ k : Int, 0 ≤ k → k ≤ 16 → bD t p k = bD s p k := fun k h0 h1 => by
    unfold bD stD
    split
    · exact hn _ (by omega)
    · rw [hn _ (by omega)]
  have ej : ∀ k : Int, 0 ≤ k → k ≤ 60 → jD t p k = jD s p k := fun k h0 h1 => by
    unfold jD
    split
    · exact hn _ (by omega)
    · rw [hn _ (by omega)]
  have eq : ∀ k : Int, 0 ≤ k → k ≤ 60 → jP t p k = jP s p k := fun k h0 h1 => by
    unfold jP
    split
    · exact hn _ (by omega)
    · rw [hn _ (by omega)]
  have e3 : t (103 * p + 3) = s (103 * p + 3) := hn _ (by omega)
  have e7 : t (103 * p + 7) = s (103 * p + 7) := hn _ (by omega)
  have e8 : t (103 * p + 8) = s (103 * p + 8) := hn _ (by omega)
  refine ⟨by rw [hn _ (by omega)]; exact h.home, by rw [hn _ (by omega), e7]; exact h.iss, by rw [hn _ (by omega)]; exact h.whr, by rw [e3]; exact h.crs, by rw [hn _ (by omega)]; exact h.bgn, by rw [e7, td]; exact h.bgo, by rw [e8]; exact h.stm, ?_, ?_, hv, ?_, ?_, ?_⟩
  · intro r h0 h1
    rw [e8] at h1
    rw [hn _ (by omega)]
    exact h.st h0 h1
  · intro r h0 h1
    rw [e8] at h1
    rw [td, eb _ h0 (by omega), eb _ (by omega) (by omega)]
    exact h.bd h0 h1
  · intro k h0 h1
    rw [e3] at h1
    rw [hn _ (by omega)]
    exact h.cr h0 h1
  · intro k h0 h1
    rw [e3] at h1
    rw [td, ej _ h0 (by omega), ej _ (by omega) (by omega)]
    exact h.jd h0 h1
  · rw [e3, hn _ (by omega), eq _ (by omega) (by omega)]
    exact h.here
theorem Ok.grant {c a u d : Int} (h : Ok s) (hp : 0 ≤ p ∧ p < s 619) (hc : 0 ≤ c ∧ c < 6) (ha : 0 ≤ a ∧ a ≤ 999) (hu : 0 ≤ u ∧ u ≤ 999) (hd : 0 ≤ d ∧ d ≤ 99) : Ok (grantS s p c a u d) := by
  have hm := h.many
  have hP := h.at hp.1 hp.2
  refine h.one hp (hP.visas ⟨hp.1, by omega⟩ (fun j hj => grantS_n (by omega)) (fun e h0 h1 => ?_)) (fun j h1 h2 => grantS_n (by omega))
  by_cases he : e = c
  · subst he
    have := grantS_v (s := s) (p := p) (c := e) (a := a) (u := u) (d := d)
    omega
  · have hh := hP.vis h0 h1
    have ev : ∀ k : Int, 0 ≤ k → k < 3 → vOf (grantS s p c a u d) p e k = vOf s p e k := fun k h2 h3 => grantS_n (by omega)
    rw [ev _ (by omega) (by omega), ev _ (by omega) (by omega), ev _ (by omega) (by omega)]
    exact hh
theorem Ok.revoke {c : Int} (h : Ok s) (hp : 0 ≤ p ∧ p < s 619) (hc : 0 ≤ c ∧ c < 6) : Ok (revokeS s p c) := by
  have hm := h.many
  have hP := h.at hp.1 hp.2
  have hn : ∀ j : Int, j ≠ 103 * p + (25 + 3 * c + 2) → revokeS s p c j = s j := fun j hj => upI_n _ _ hj
  have hs : revokeS s p c (103 * p + (25 + 3 * c + 2)) = 0 := upI_s _ _ _
  generalize revokeS s p c = t at hn hs ⊢
  refine h.one hp (hP.visas ⟨hp.1, by omega⟩ (fun j hj => hn _ (by omega)) (fun e h0 h1 => ?_)) (fun j h1 h2 => hn _ (by omega))
  have hh := hP.vis h0 h1
  have e0 : vOf t p e 0 = vOf s p e 0 := hn _ (by omega)
  have e1 : vOf t p e 1 = vOf s p e 1 := hn _ (by omega)
  rw [e0, e1]
  by_cases he : e = c
  · subst he
    rw [show vOf t p e 2 = 0 from hs]
    omega
  · have e2 : vOf t p e 2 = vOf s p e 2 := hn _ (by omega)
    rw [e2]; exact hh
theorem beginS_n {c j : Int} (h : j ≠ 103 * p + 5 ∧ j ≠ 103 * p + 6 ∧ j ≠ 103 * p + 7 ∧ j ≠ 103 * p + 8) : beginS s p c j = s j := by
  unfold beginS
  rw [upI_n _ _ (by omega), upI_n _ _ (by omega), upI_n _ _ (by omega), upI_n _ _ (by omega)]
theorem beginS_v {c : Int} (hp : 0 ≤ p ∧ p < 6) : beginS s p c (103 * p + 6) = c ∧ beginS s p c (103 * p + 7) = s 618 ∧ beginS s p c (103 * p + 8) = 0 ∧ beginS s p c (103 * p + 5) = s (103 * p + 5) + 1 := by
  unfold beginS
  refine ⟨?_, ?_, ?_, ?_⟩
  · rw [upI_n _ _ (by omega), upI_n _ _ (by omega), upI_n _ _ (by omega), upI_s]
  · rw [upI_n _ _ (by omega), upI_n _ _ (by omega), upI_s, upI_n _ _ (by omega)]
  · rw [upI_n _ _ (by omega), upI_s]
  · rw [upI_s, upI_n _ _ (by omega), upI_n _ _ (by omega), upI_n _ _ (by omega)]
/-- a book is begun: the passport's other numbers must be right but for the book's -/
theorem OkP.begin {c : Int} (hp : 0 ≤ p ∧ p < 6) (hd : 0 ≤ s 618 ∧ s 618 ≤ 999) (hc : 0 ≤ c ∧ c ≤ 5) (h0 : 0 ≤ s (103 * p + 0) ∧ s (103 * p + 0) ≤ 5) (h1 : 0 ≤ s (103 * p + 1) ∧ s (103 * p + 1) ≤ s 618) (h2 : 0 ≤ s (103 * p + 2) ∧ s (103 * p + 2) ≤ 5) (h3 : 0 ≤ s (103 * p + 3) ∧ s (103 * p + 3) ≤ 60)
    (hv : ∀ c, 0 ≤ c → c < 6 → (0 ≤ vOf s p c 0 ∧ vOf s p c 0 ≤ 999) ∧ (0 ≤ vOf s p c 1 ∧ vOf s p c 1 ≤ 999) ∧ (0 ≤ vOf s p c 2 ∧ vOf s p c 2 ≤ 99)) (hk : ∀ k, 0 ≤ k → k < s (103 * p + 3) → 0 ≤ s (103 * p + (43 + k)) ∧ s (103 * p + (43 + k)) < 6000) (hj : ∀ k, 0 ≤ k → k < s (103 * p + 3) → jD s p k ≤ jD s p (k + 1) ∧ jD s p (k + 1) ≤ s 618) (hw : s (103 * p + 2) = jP s p (s (103 * p + 3))) : OkP (beginS s p c) p := by
  have n : ∀ j : Int, j ≠ 103 * p + 5 ∧ j ≠ 103 * p + 6 ∧ j ≠ 103 * p + 7 ∧ j ≠ 103 * p + 8 → beginS s p c j = s j := fun j h => beginS_n h
  obtain ⟨v6, v7, v8, -⟩ := beginS_v (s := s) (c := c) hp
  generalize beginS s p c = t at n v6 v7 v8 ⊢
  have td : t 618 = s 618 := n 618 (by omega)
  have e1 : t (103 * p + 1) = s (103 * p + 1) := n _ (by omega)
  have e3 : t (103 * p + 3) = s (103 * p + 3) := n _ (by omega)
  have ej : ∀ k : Int, 0 ≤ k → k ≤ 60 → jD t p k = jD s p k := fun k h0 h1 => by
    unfold jD
    split
    · exact n _ (by omega)
    · rw [n _ (by omega)]
  have eq : ∀ k : Int, 0 ≤ k → k ≤ 60 → jP t p k = jP s p k := fun k h0 h1 => by
    unfold jP
    split
    · exact n _ (by omega)
    · rw [n _ (by omega)]
  refine ⟨by rw [n _ (by omega)]; exact h0, by rw [e1, v7]; exact h1, by rw [n _ (by omega)]; exact h2, by rw [e3]; exact h3, by rw [v6]; exact hc, by rw [v7, td]; omega, by rw [v8]; omega, by rw [v8]; intro r a b; omega, by rw [v8]; intro r a b; omega, ?_, ?_, ?_, ?_⟩
  · intro c a b
    have ev : ∀ k : Int, 0 ≤ k → k < 3 → vOf t p c k = vOf s p c k := fun k h2 h3 => n _ (by omega)
    rw [ev _ (by omega) (by omega), ev _ (by omega) (by omega), ev _ (by omega) (by omega)]
    exact hv c a b
  · intro k a b
    rw [e3] at b
    rw [n _ (by omega)]
    exact hk k a b
  · intro k a b
    rw [e3] at b
    rw [td, ej _ a (by omega), ej _ (by omega) (by omega)]
    exact hj k a b
  · rw [e3, n _ (by omega), eq _ (by omega) (by omega)]
    exact hw
theorem Ok.begin {c : Int} (h : Ok s) (hp : 0 ≤ p ∧ p < s 619) (hc : 0 ≤ c ∧ c ≤ 5) : Ok (beginS s p c) := by
  have hm := h.many
  have hP := h.at hp.1 hp.2
  have hb := hP.bgo
  have hi := hP.iss
  exact h.one hp (OkP.begin ⟨hp.1, by omega⟩ h.day hc hP.home (by omega) hP.whr hP.crs (fun c a b => hP.vis a b) (fun k a b => hP.cr a b) (fun k a b => hP.jd a b) hP.here) (fun j h1 h2 => beginS_n (by omega))
theorem zeroS_n : ∀ (k : Nat) {j : Int}, ¬ (103 * p ≤ j ∧ j < 103 * p + k) → zeroS s p k j = s j
  | 0, _, _ => rfl
  | k + 1, j, h => by
    unfold zeroS
    rw [upI_n _ _ (by omega)]
    exact zeroS_n k (by omega)
theorem zeroS_v : ∀ (k : Nat) {w : Int}, 0 ≤ w → w < k → zeroS s p k (103 * p + w) = 0
  | 0, w, h0, h1 => by omega
  | k + 1, w, h0, h1 => by
    unfold zeroS
    by_cases hw : w = k
    · rw [hw, upI_s]
    · rw [upI_n _ _ (by omega)]
      exact zeroS_v k h0 (by omega)
theorem issueD_n {h j : Int} (hj : ¬ (103 * s 619 ≤ j ∧ j < 103 * s 619 + 103)) (h9 : j ≠ 619) : issueD s h j = s j := by
  unfold issueD issueC issueB issueA
  rw [upI_n _ _ (by omega), upI_n _ _ (by omega), upI_n _ _ (by omega), zeroS_n _ (by omega), upI_n _ _ h9]
theorem issueD_v {h : Int} (hm : 0 ≤ s 619 ∧ s 619 < 6) : issueD s h 619 = s 619 + 1 ∧ issueD s h 618 = s 618 ∧ issueD s h (103 * s 619 + 0) = h ∧ issueD s h (103 * s 619 + 1) = s 618 ∧ issueD s h (103 * s 619 + 2) = h ∧ ∀ w : Int, 3 ≤ w → w < 103 → issueD s h (103 * s 619 + w) = 0 := by
  refine ⟨?_, issueD_n (by omega) (by omega), ?_, ?_, ?_, fun w h0 h1 => ?_⟩
  · unfold issueD issueC issueB issueA
    rw [upI_n _ _ (by omega), upI_n _ _ (by omega), upI_n _ _ (by omega), zeroS_n _ (by omega), upI_s]
  · unfold issueD issueC issueB
    rw [upI_n _ _ (by omega), upI_n _ _ (by omega), upI_s]
  · unfold issueD issueC
    rw [upI_n _ _ (by omega), upI_s]
    unfold issueB issueA
    rw [upI_n _ _ (by omega), zeroS_n _ (by omega), upI_n _ _ (by omega)]
  · unfold issueD
    rw [upI_s]
  · unfold issueD issueC issueB issueA
    rw [upI_n _ _ (by omega), upI_n _ _ (by omega), upI_n _ _ (by omega)]
    exact zeroS_v 103 (by omega) (by omega)
theorem issueS_n {h j : Int} (hj : ¬ (103 * s 619 ≤ j ∧ j < 103 * s 619 + 103)) (h9 : j ≠ 619) : issueS s h j = s j := by
  unfold issueS
  rw [beginS_n (by omega)]
  exact issueD_n hj h9
theorem Ok.issue {h : Int} (hO : Ok s) (hm : s 619 < 6) (hh : 0 ≤ h ∧ h ≤ 5) : Ok (issueS s h) := by
  have hm0 := hO.many
  have hd := hO.day
  obtain ⟨v9, v8, w0, w1, w2, w3⟩ := issueD_v (s := s) (h := h) ⟨hm0.1, hm⟩
  have e9 : issueS s h 619 = s 619 + 1 := by unfold issueS; rw [beginS_n (by omega)]; exact v9
  have e8 : issueS s h 618 = s 618 := issueS_n (by omega) (by omega)
  have e7 : issueS s h 620 = s 620 := issueS_n (by omega) (by omega)
  refine ⟨by rw [e8]; exact hd, by rw [e9]; omega, by rw [e7]; exact hO.clo, fun q h2 h3 => ?_⟩
  rw [e9] at h3
  by_cases hq : q = s 619
  · rw [hq]
    have z3 := w3 3 (by omega) (by omega)
    refine OkP.begin ⟨hm0.1, hm⟩ (by rw [v8]; exact hd) hh (by rw [w0]; exact hh) (by rw [w1, v8]; omega) (by rw [w2]; exact hh) (by rw [z3]; omega) (fun c a b => ?_) (by rw [z3]; intro k a b; omega) (by rw [z3]; intro k a b; omega) (by rw [z3, w2, jP, if_pos rfl, w0])
    have ev : ∀ k : Int, 0 ≤ k → k < 3 → vOf (issueD s h) (s 619) c k = 0 := fun k h2 h3 => w3 _ (by omega) (by omega)
    rw [ev _ (by omega) (by omega), ev _ (by omega) (by omega), ev _ (by omega) (by omega)]
    omega
  · exact (hO.at h2 (by omega)).cg (fun w h4 h5 _ _ => issueS_n (by omega) (by omega)) (by omega)
theorem Ok.turn {a b : Int} (h : Ok s) (ha : 0 ≤ a ∧ a ≤ 5) (hb : 0 ≤ b ∧ b ≤ 5) (hn : a ≠ b) : Ok (turnS s a b) := by
  have hd := h.day
  have hm := h.many
  have hc := h.clo
  have hbb := bitOf_b ha hb hn
  have n : ∀ j : Int, j ≠ 620 → turnS s a b j = s j := fun j hj => upI_n _ _ hj
  have v : turnS s a b 620 = (((s 620).toNat ^^^ 2 ^ (bitOf a b).toNat : Nat) : Int) := upI_s _ _ _
  have hlt : (s 620).toNat ^^^ 2 ^ (bitOf a b).toNat < 2 ^ 15 := Nat.xor_lt_two_pow (by omega) (Nat.pow_lt_pow_right (by decide) (by omega))
  generalize turnS s a b = t at n v ⊢
  refine ⟨by rw [n _ (by omega)]; exact hd, by rw [n _ (by omega)]; exact hm, by rw [v]; omega, fun q h2 h3 => ?_⟩
  rw [n _ (by omega)] at h3
  exact (h.at h2 h3).cg (fun w h4 h5 _ _ => n _ (by omega)) (by rw [n _ (by omega)]; omega)
end
