theorem crossS_v {s : Int → Int} {p k f j : Int} (hp : 0 ≤ p ∧ p < 6) (hf : 0 ≤ f ∧ f ≤ 3) (h8 : 0 ≤ s (103 * p + 8) ∧ s (103 * p + 8) + (2 - f % 2 - f / 2) ≤ 16) (h3 : 0 ≤ s (103 * p + 3) ∧ s (103 * p + 3) < 60) (g1 : 25 ≤ j) (g2 : j < 43) : crossS s p k f (103 * p + j) = s (103 * p + j) := by
  have n3 : _ := crossB_n (s := s) (p := p) (c := k) (f := f) (j := 103 * p + 3) (Or.inl (by omega)) hf h8
  have c3 : crossC s p k f (103 * p + 3) = s (103 * p + 3) := by unfold crossC; rw [upI_n _ _ (by omega)]; exact n3
  unfold crossS crossE crossD
  rw [upI_n _ _ (by omega), upI_n _ _ (by omega), upI_n _ _ (by omega)]
  unfold crossC
  rw [upI_n _ _ (by omega)]
  exact crossB_n (by omega) hf h8

section
variable {E : Ev} {M : Mem} {w n t : Nat} {s : Int → Int}
theorem StM.fa {dy iss fg : Int} {cl : Int64} {C : Nat → HC} {q : Nat} (h : q < t ∨ t + 62 ≤ q) : stU E M t dy iss fg cl C q = M q := ov_n h
theorem vwb.out {C : Nat → HC} (h : vwb w n C) (ht : t + 62 ≤ w) : ∀ i, i < 6 → ∀ k u, hcv (C i) k = some u → u < t ∨ t + 62 ≤ u := fun i hi k u hu => by
  have := h i hi k u hu; omega
theorem r_addHolder (hS : SR E M w n t s) (ht : t + 62 ≤ w) {h : Int} (h1 : rg h) : MT E yX2_addHolder cX2_addHolder 2 (some .int) 4 0 0 [.ref t, .int (iI h)] n M (RS E M w n t (g_issue s h)) := by
  obtain ⟨C, hM, hR, hv, hO⟩ := hS
  have hm := hO.many
  refine (c_X2_addHolder hM (by omega) h1).mono ?_
  rintro v n' M' ⟨rfl, e2, rfl⟩
  replace e2 := e2.symm
  subst e2
  unfold g_issue
  by_cases q1 : ¬ (0 ≤ h ∧ h ≤ 5)
  · simp only [if_pos q1, if_neg (show ¬ ((0 ≤ h ∧ h ≤ 5) ∧ s 619 ≠ 6) from fun w => q1 w.1)]
    exact RS.same ⟨C, hM, hR, hv, hO⟩
  · by_cases q2 : s 619 = 6
    · simp only [if_neg q1, if_pos q2, if_neg (show ¬ ((0 ≤ h ∧ h ≤ 5) ∧ s 619 ≠ 6) from fun w => w.2 q2)]
      exact RS.same ⟨C, hM, hR, hv, hO⟩
    · have q1' : 0 ≤ h ∧ h ≤ 5 := Decidable.byContradiction q1
      simp only [if_neg q1, if_neg q2, if_pos (show ((0 ≤ h ∧ h ≤ 5) ∧ s 619 ≠ 6) from ⟨q1', q2⟩)]
      have hm2 : 0 ≤ s 619 ∧ s 619 < 6 := by omega
      have hO' := hO.issue hm2.2 q1'
      have e9 : issueS s h 619 = s 619 + 1 := issueS_v hm2
      have ep : (((s 619).toNat : Nat) : Int) = s 619 := by omega
      refine ⟨rfl, Nat.le_refl _, SR.mk (s' := issueS s h) rfl (issueS_n (by omega) (by omega)).symm e9.symm (issueS_n (by omega) (by omega)).symm (by rw [issueS_n (by omega) (by omega)]) (StR.one hR hO hO' hv (by rw [ep, e9]; omega) (fun i hi hn => ⟨by omega, fun j g1 g2 => issueS_n (by omega) (by omega)⟩) (fun q g1 g2 => StM.fa (by omega)) ?_) (hv.up ?_) hO', fun q g1 g2 => StM.fa g1⟩
      · rw [ep]; exact ⟨begC_R hm2, begV_R hm2⟩
      · intro k u hu
        have hu2 : nulP (hcv (C (s 619).toNat)) 6 k = some u := hu
        unfold nulP at hu2
        split at hu2
        · cases hu2
        · exact hv _ (by omega) k u hu2
theorem r_giveBook (hS : SR E M w n t s) (ht : t + 62 ≤ w) {p : Int} (h1 : rg p) : MT E yX2_giveBook cX2_giveBook 4 (some .int) 3 0 0 [.ref t, .int (iI p)] n M (RS E M w n t (g_renew s p)) := by
  obtain ⟨C, hM, hR, hv, hO⟩ := hS
  have hm := hO.many
  refine (c_X2_giveBook hM hR hO h1).mono ?_
  rintro v n' M' ⟨rfl, e2, rfl⟩
  replace e2 := e2.symm
  subst e2
  unfold g_renew
  by_cases q1 : 0 ≤ p ∧ p ≤ s 619 - 1
  · simp only [if_pos q1, if_neg (show ¬ ¬ (0 ≤ p ∧ p ≤ s 619 - 1) from fun w => w q1)]
    have ep : ((p.toNat : Nat) : Int) = p := by omega
    have hO' := hO.begin (p := p) (c := s (103 * p + 2)) (by omega) (hO.at (p := p) (by omega) (by omega)).whr
    have hk := hO.at (p := p) (by omega) (by omega)
    have hh := hR.2.2 p.toNat (by omega)
    rw [ep] at hh
    refine ⟨by rw [show hcb (C p.toNat) = s (103 * p + 8) from hh.1.1.2.2.2.2], Nat.le_refl _, SR.mk (s' := beginS s p (s (103 * p + 2))) rfl (beginS_n (by omega)).symm (beginS_n (by omega)).symm (beginS_n (by omega)).symm (by rw [beginS_n (by omega)]) (StR.one hR hO hO' hv (by rw [ep, beginS_n (by omega)]; omega) (fun i hi hn => ?_) (fun q g1 g2 => StM.fa (by omega)) ?_) (hv.up (fun k u hu => hv _ (by omega) k u hu)) hO', fun q g1 g2 => StM.fa g1⟩
    · rw [beginS_n (by omega)] at hi
      exact ⟨hi, fun j g1 g2 => beginS_n (by omega)⟩
    · rw [ep]
      exact ⟨bokC_R hh.1 hk (by omega), VisR.gen (VisR.fr hh.2 (fun k u hu => StM.fa (by have := hv p.toNat (by omega) k u hu; omega))) (fun j g1 g2 => beginS_n (by omega))⟩
  · simp only [if_neg q1, if_pos (show ¬ (0 ≤ p ∧ p ≤ s 619 - 1) from q1)]
    exact RS.same ⟨C, hM, hR, hv, hO⟩
theorem revokeS_n {p c j : Int} (h : j ≠ 103 * p + (25 + 3 * c + 2)) : revokeS s p c j = s j := upI_n _ _ h
theorem r_takeVisa (hS : SR E M w n t s) (ht : t + 62 ≤ w) {p c : Int} (h1 : rg p) (h2 : rg c) : MT E yX2_takeVisa cX2_takeVisa 5 (some .int) 3 0 0 [.ref t, .int (iI p), .int (iI c)] n M (RS E M w n t (g_revoke s p c)) := by
  obtain ⟨C, hM, hR, hv, hO⟩ := hS
  have hm := hO.many
  refine (c_X2_takeVisa hM hR hO (hv.out ht) h1 h2).mono ?_
  rintro v n' M' ⟨rfl, e2, rfl⟩
  replace e2 := e2.symm
  subst e2
  unfold g_revoke
  by_cases q1 : areT s p c
  · by_cases q2 : hasV s p c
    · simp only [if_neg (show ¬ ¬ areT s p c from fun w => w q1), if_neg (show ¬ ¬ hasV s p c from fun w => w q2), if_pos (show areT s p c ∧ hasV s p c from ⟨q1, q2⟩)]
      have q1' := q1
      unfold areT at q1'
      have ep : ((p.toNat : Nat) : Int) = p := by omega
      have hO' := hO.revoke (p := p) (c := c) (by omega) (by omega)
      have hk := hO.at (p := p) (by omega) (by omega)
      have hh := hR.2.2 p.toNat (by omega)
      rw [ep] at hh
      refine ⟨rfl, Nat.le_refl _, SR.mk (s' := revokeS s p c) rfl (revokeS_n (by omega)).symm (revokeS_n (by omega)).symm (revokeS_n (by omega)).symm (by rw [revokeS_n (by omega)]) (StR.one hR hO hO' hv (by rw [ep, revokeS_n (by omega)]; omega) (fun i hi hn => ?_) (fun q g1 g2 => StM.fa (by omega)) ?_) (hv.up ?_) hO', fun q g1 g2 => StM.fa g1⟩
      · rw [revokeS_n (by omega)] at hi
        exact ⟨hi, fun j g1 g2 => revokeS_n (by omega)⟩
      · rw [ep]
        refine ⟨HolR.gen hh.1 hk (fun j g1 g2 _ _ g3 => revokeS_n (by omega)) (hh.1.1.2.1.trans (revokeS_n (by omega)).symm) (hh.1.1.2.2.1.trans (revokeS_n (by omega)).symm), fun k k0 k1 => ?_⟩
        by_cases hkc : k = c
        · subst hkc
          refine Or.inl ⟨upR_s _ _ _, ?_⟩
          show ¬ 0 < revokeS s p k (103 * p + (25 + 3 * k + 2))
          have e : revokeS s p k (103 * p + (25 + 3 * k + 2)) = 0 := upI_s _ _ _
          rw [e]; omega
        · have ev : ∀ z : Int, 0 ≤ z → z < 3 → vOf (revokeS s p c) p k z = vOf s p k z := fun z z0 z1 => revokeS_n (by omega)
          have eh : hcv (visC (C p.toNat) c none) k = hcv (C p.toNat) k := upR_n _ _ hkc
          rw [eh, ev 0 (by omega) (by omega), ev 1 (by omega) (by omega), ev 2 (by omega) (by omega)]
          rcases hh.2 k k0 k1 with ⟨a, b⟩ | ⟨u, a, b, d⟩
          · exact Or.inl ⟨a, by show ¬ 0 < vOf (revokeS s p c) p k 2; rw [ev 2 (by omega) (by omega)]; exact b⟩
          · exact Or.inr ⟨u, a, (StM.fa (by have := hv p.toNat (by omega) k u a; omega)).trans b, by show 0 < vOf (revokeS s p c) p k 2; rw [ev 2 (by omega) (by omega)]; exact d⟩
      · intro k u hu
        have hu2 : upR (hcv (C p.toNat)) c none k = some u := hu
        unfold upR at hu2
        split at hu2
        · cases hu2
        · exact hv _ (by unfold areT at q1; omega) k u hu2
    · simp only [if_neg (show ¬ ¬ areT s p c from fun w => w q1), if_pos (show ¬ hasV s p c from q2), if_neg (show ¬ (areT s p c ∧ hasV s p c) from fun w => q2 w.2)]
      exact RS.same ⟨C, hM, hR, hv, hO⟩
  · simp only [if_pos (show ¬ areT s p c from q1), if_neg (show ¬ (areT s p c ∧ hasV s p c) from fun w => q1 w.1)]
    exact RS.same ⟨C, hM, hR, hv, hO⟩
theorem turnS_n {a b j : Int} (h : j ≠ 620) : turnS s a b j = s j := upI_n _ _ h
theorem r_flipBorder (hS : SR E M w n t s) (ht : t + 62 ≤ w) {a b : Int} (h1 : rg a) (h2 : rg b) : MT E yX2_flipBorder cX2_flipBorder 3 (some .int) 3 0 0 [.ref t, .int (iI a), .int (iI b)] n M (RS E M w n t (g_turn s a b)) := by
  obtain ⟨C, hM, hR, hv, hO⟩ := hS
  have hm := hO.many
  refine (c_X2_flipBorder hM h1 h2).mono ?_
  rintro v n' M' ⟨rfl, e2, rfl⟩
  replace e2 := e2.symm
  subst e2
  unfold g_turn
  by_cases q1 : ((0 ≤ a ∧ a ≤ 5) ∧ (0 ≤ b ∧ b ≤ 5))
  · by_cases q2 : a = b
    · simp only [if_neg (show ¬ ¬ ((0 ≤ a ∧ a ≤ 5) ∧ (0 ≤ b ∧ b ≤ 5)) from fun w => w q1), if_pos q2, if_neg (show ¬ (((0 ≤ a ∧ a ≤ 5) ∧ (0 ≤ b ∧ b ≤ 5)) ∧ a ≠ b) from fun w => w.2 q2)]
      exact RS.same ⟨C, hM, hR, hv, hO⟩
    · simp only [if_neg (show ¬ ¬ ((0 ≤ a ∧ a ≤ 5) ∧ (0 ≤ b ∧ b ≤ 5)) from fun w => w q1), if_neg q2, if_pos (show (((0 ≤ a ∧ a ≤ 5) ∧ (0 ≤ b ∧ b ≤ 5)) ∧ a ≠ b) from ⟨q1, q2⟩)]
      have hO' := hO.turn q1.1 q1.2 q2
      have ec := clOf_flip (s := s) q1.1 q1.2 q2
      refine ⟨by rw [← ec, lbc_closed hO'.clo], Nat.le_refl _, SR.mk (s' := turnS s a b) rfl (turnS_n (by omega)).symm (turnS_n (by omega)).symm (turnS_n (by omega)).symm ec.symm ⟨⟨rfl, rfl, rfl⟩, hR.2.1, fun i hi => ?_⟩ hv hO', fun q g1 g2 => StM.fa g1⟩
      rw [turnS_n (by omega)] at hi
      have hh := hR.2.2 i hi
      have hs : sameP s (turnS s a b) i := fun j g1 g2 => turnS_n (by omega)
      exact ⟨HolR.fr hh.1 (hO.at (p := (i : Int)) (by omega) hi) hs, VisR.frs (VisR.fr hh.2 (fun k u hu => StM.fa (by have := hv i (by omega) k u hu; omega))) hs⟩
  · simp only [if_pos (show ¬ ((0 ≤ a ∧ a ≤ 5) ∧ (0 ≤ b ∧ b ≤ 5)) from q1), if_neg (show ¬ (((0 ≤ a ∧ a ≤ 5) ∧ (0 ≤ b ∧ b ≤ 5)) ∧ a ≠ b) from fun w => q1 w.1)]
    exact RS.same ⟨C, hM, hR, hv, hO⟩
theorem r_moveHolder (hS : SR E M w n t s) (ht : t + 62 ≤ w) {p c f : Int} (h1 : rg p) (h2 : rg c) (h3 : rg f) : MT E yX2_moveHolder cX2_moveHolder 7 (some .int) 5 0 0 [.ref t, .int (iI p), .int (iI c), .int (iI f)] n M (RS E M w n t (g_cross s p c f)) := by
  obtain ⟨C, hM, hR, hv, hO⟩ := hS
  have hm := hO.many
  refine (c_X2_moveHolder hM hR hO CloR_of (hv.out ht) h1 h2 h3).mono ?_
  rintro v n' M' ⟨rfl, e2, rfl⟩
  replace e2 := e2.symm
  subst e2
  unfold g_cross
  by_cases q1 : errCross s p c f = 0
  · simp only [if_neg (show ¬ (errCross s p c f ≠ 0) from fun w => w q1)]
    have hg := errCross_ok hO q1
    have ep : ((p.toNat : Nat) : Int) = p := by omega
    have hk := hO.at (p := p) hg.1.1 hg.1.2
    have hO' := hO.cross hg.1 hg.2.1 hg.2.2.1 hg.2.2.2.2.1 hg.2.2.2.2.2.1
    have hh := hR.2.2 p.toNat (by omega)
    rw [ep] at hh
    have hp6 : 0 ≤ p ∧ p < 6 := by omega
    have h8 : 0 ≤ s (103 * p + 8) ∧ s (103 * p + 8) + (2 - f % 2 - f / 2) ≤ 16 := ⟨hk.stm.1, hg.2.2.2.2.1⟩
    have h3' : 0 ≤ s (103 * p + 3) ∧ s (103 * p + 3) < 60 := ⟨hk.crs.1, hg.2.2.2.2.2.1⟩
    have cn : ∀ j : Int, ¬ (103 * p ≤ j ∧ j < 103 * p + 103) → j ≠ 621 → crossS s p c f j = s j := fun j g1 g2 => crossS_n g1 g2 hp6 hg.2.2.1 h8 h3'
    have hN := movC_R hh.1 hk hp6 hg.2.1 hg.2.2.1 hg.2.2.2.2.1 hg.2.2.2.2.2.1
    refine ⟨by rw [show hcb (movC (C p.toNat) (s (103 * p + 2)) c (s 618) f) = crossS s p c f (103 * p + 8) from hN.1.2.2.2.2], Nat.le_refl _, SR.mk (s' := crossS s p c f) rfl (cn _ (by omega) (by omega)).symm (cn _ (by omega) (by omega)).symm (crossS_621 hp6 hg.2.2.1 h8 h3').symm (by rw [cn _ (by omega) (by omega)]) (StR.one hR hO hO' hv (by rw [ep, cn _ (by omega) (by omega)]; omega) (fun i hi hn => ?_) (fun q g1 g2 => StM.fa (by omega)) ?_) (hv.up (fun k u hu => hv p.toNat (by omega) k u (by rw [hcv_mov] at hu; exact hu))) hO', fun q g1 g2 => StM.fa g1⟩
    · rw [cn _ (by omega) (by omega)] at hi
      exact ⟨hi, fun j g1 g2 => cn _ (by omega) (by omega)⟩
    · rw [ep]
      refine ⟨hN, ?_⟩
      rw [hcv_mov]
      exact VisR.gen (VisR.fr hh.2 (fun k u hu => StM.fa (by have := hv p.toNat (by omega) k u hu; omega))) (fun j g1 g2 => crossS_v hp6 hg.2.2.1 h8 h3' g1 g2)
  · simp only [if_pos (show errCross s p c f ≠ 0 from q1)]
    exact RS.same ⟨C, hM, hR, hv, hO⟩
theorem r_giveVisa (hS : SR E M w n t s) (ht : t + 62 ≤ w) (hw : w ≤ n) {p c x u d : Int} (h1 : rg p) (h2 : rg c) (h3 : rg x) (h4 : rg u) (h5 : rg d) : MT E yX2_giveVisa cX2_giveVisa 8 (some .int) 4 1 4 [.ref t, .int (iI p), .int (iI c), .int (iI x), .int (iI u), .int (iI d)] n M (RS E M w n t (g_grant s p c x u d)) := by
  obtain ⟨C, hM, hR, hv, hO⟩ := hS
  have hm := hO.many
  refine (c_X2_giveVisa hM hR hO (by omega) h1 h2 h3 h4 h5).mono ?_
  rintro v n' M' ⟨rfl, rfl, rfl⟩
  unfold g_grant
  by_cases q1 : errGrant s p c x u d = 0
  · simp only [if_neg (show ¬ (errGrant s p c x u d ≠ 0) from fun w => w q1)]
    have hg := errGrant_ok q1
    have ep : ((p.toNat : Nat) : Int) = p := by omega
    have hk := hO.at (p := p) hg.1.1 hg.1.2
    have hO' := hO.grant hg.1 hg.2.1 hg.2.2.1 hg.2.2.2.1 hg.2.2.2.2.1
    have hh := hR.2.2 p.toNat (by omega)
    rw [ep] at hh
    have gv := grantS_v (s := s) (p := p) (c := c) (a := x) (u := u) (d := d)
    have hsb : sameB s (grantS s p c x u d) p := fun j g1 g2 _ _ g3 => grantS_n (by omega)
    have eu : usedOn (grantS s p c x u d) p c (grantS s p c x u d 618) = toldDays s p c x u (s 618) := by
      unfold usedOn
      rw [gv.1, gv.2.1, grantS_n (by omega), told_g hk hsb]
    have hfa : ∀ q, q < t ∨ t + 62 ≤ q → q < n → stU E (va_up M n (viC c x u d)) t (s 618) (s 619) (s 621) (clOf (s 620).toNat) (upC C p.toNat (visC (C p.toNat) c (some n))) q = M q := fun q g1 g2 => (StM.fa g1).trans (va_up_ne _ _ (by omega))
    refine ⟨by rw [eu], Nat.le_succ n, SR.mk (s' := grantS s p c x u d) rfl (grantS_n (by omega)).symm (grantS_n (by omega)).symm (grantS_n (by omega)).symm (by rw [grantS_n (by omega)]) (StR.one hR hO hO' hv (by rw [ep, grantS_n (by omega)]; omega) (fun i hi hn => ?_) (fun q g1 g2 => hfa q (by omega) g2) ?_) (vwb.up (fun i hi k z hz => ⟨(hv i hi k z hz).1, by have := (hv i hi k z hz).2; omega⟩) ?_) hO', hfa⟩
    · rw [grantS_n (by omega)] at hi
      exact ⟨hi, fun j g1 g2 => grantS_n (by omega)⟩
    · rw [ep]
      refine ⟨HolR.gen hh.1 hk hsb (hh.1.1.2.1.trans (grantS_n (by omega)).symm) (hh.1.1.2.2.1.trans (grantS_n (by omega)).symm), fun k k0 k1 => ?_⟩
      by_cases hkc : k = c
      · subst hkc
        refine Or.inr ⟨n, upR_s _ _ _, ?_, by show 0 < vOf (grantS s p k x u d) p k 2; rw [gv.2.2]; omega⟩
        rw [gv.1, gv.2.1, gv.2.2]
        exact (StM.fa (by omega)).trans up_s
      · have ev : ∀ z : Int, 0 ≤ z → z < 3 → vOf (grantS s p c x u d) p k z = vOf s p k z := fun z z0 z1 => grantS_n (by omega)
        have eh : hcv (visC (C p.toNat) c (some n)) k = hcv (C p.toNat) k := upR_n _ _ hkc
        rw [eh, ev 0 (by omega) (by omega), ev 1 (by omega) (by omega), ev 2 (by omega) (by omega)]
        rcases hh.2 k k0 k1 with ⟨a, b⟩ | ⟨z, a, b, e⟩
        · exact Or.inl ⟨a, by show ¬ 0 < vOf (grantS s p c x u d) p k 2; rw [ev 2 (by omega) (by omega)]; exact b⟩
        · have hz := hv p.toNat (by omega) k z a
          exact Or.inr ⟨z, a, (hfa z (by omega) hz.2).trans b, by show 0 < vOf (grantS s p c x u d) p k 2; rw [ev 2 (by omega) (by omega)]; exact e⟩
    · intro k z hz
      have hz2 : upR (hcv (C p.toNat)) c (some n) k = some z := hz
      unfold upR at hz2
      split at hz2
      · cases hz2; omega
      · have := hv p.toNat (by omega) k z hz2; omega
  · simp only [if_pos (show errGrant s p c x u d ≠ 0 from q1)]
    exact RS.same ⟨C, hM, hR, hv, hO⟩
theorem dayS_n {j : Int} (h : 618 < j) (hm : s 619 ≤ 6) : dayS s j = s j := by
  unfold dayS
  rw [upI_n _ _ (by omega), overS_h _ (by omega) (by omega)]
theorem r_endDay (hS : SR E M w n t s) (ht : t + 62 ≤ w) (hd : s 618 < 999) : MT E yX2_endDay cX2_endDay 4 (some .int) 4 0 0 [.ref t] n M (RS E M w n t (overN s (s 619).toNat, dayS s)) := by
  obtain ⟨C, hM, hR, hv, hO⟩ := hS
  have hm := hO.many
  refine (c_X2_endDay hM hR hO (hv.out ht)).mono ?_
  rintro v n' M' ⟨rfl, e2, rfl⟩
  replace e2 := e2.symm
  subst e2
  have hO' := hO.dayS hd
  refine ⟨by rw [overN_e hO _ (by omega)], Nat.le_refl _, SR.mk (s' := dayS s) rfl (dayS_618 hO).symm (dayS_619 hO).symm (dayS_n (by omega) (by omega)).symm (by rw [dayS_n (by omega) (by omega)]) ⟨⟨rfl, rfl, rfl⟩, fun i hi => ?_, fun i hi => ?_⟩ (fun i hi k u hu => ?_) hO', fun q g1 g2 => StM.fa g1⟩
  · by_cases q : i < (s 619).toNat
    · rw [ovC_at _ i q]
      split
      · exact hR.2.1 i hi
      · exact hR.2.1 i hi
    · rw [ovC_n _ (by omega)]; exact hR.2.1 i hi
  · rw [dayS_619 hO] at hi
    have hh := hR.2.2 i hi
    have hk := hO.at (p := (i : Int)) (by omega) hi
    have dn : ∀ j : Int, 0 ≤ j → j < 103 → j ≠ 4 → dayS s (103 * (i : Int) + j) = s (103 * (i : Int) + j) := fun j g1 g2 g3 => by
      unfold dayS
      rw [upI_n _ _ (by omega), overS_n _ (fun z z0 z1 => by omega)]
    have d4 : dayS s (103 * (i : Int) + 4) = s (103 * (i : Int) + 4) + bI (¬ mayBe s i (s (103 * (i : Int) + 2)) (s 618)) := by
      unfold dayS
      rw [upI_n _ _ (by omega), overS_4 hO _ (by omega) i (by omega)]
    have hsb : sameB s (dayS s) i := fun j g1 g2 g3 _ _ => dn j g1 g2 g3
    have hV : VisR (stU E M t (s 618 + 1) (s 619) (s 621) (clOf (s 620).toNat) (ovC s C (s 619).toNat)) (dayS s) i (hcv (C i)) := VisR.gen (VisR.fr hh.2 (fun k u hu => StM.fa (by have := hv i (by omega) k u hu; omega))) (fun j g1 g2 => dn j (by omega) (by omega) (by omega))
    rw [ovC_at _ i (by omega)]
    by_cases q : mayBe s i (s (103 * (i : Int) + 2)) (s 618)
    · rw [if_pos q]
      rw [bI_f (fun z => z q)] at d4
      exact ⟨HolR.gen hh.1 hk hsb (hh.1.1.2.1.trans (by omega)) (hh.1.1.2.2.1.trans (dn 5 (by omega) (by omega) (by omega)).symm), hV⟩
    · rw [if_neg q]
      rw [bI_t q] at d4
      refine ⟨HolR.gen (os' := (C i).2.1 + 1) hh.1 hk hsb ?_ (hh.1.1.2.2.1.trans (dn 5 (by omega) (by omega) (by omega)).symm), hV⟩
      rw [hh.1.1.2.1, d4]
  · by_cases q : i < (s 619).toNat
    · rw [ovC_at _ i q] at hu
      split at hu
      · exact hv i hi k u hu
      · exact hv i hi k u hu
    · rw [ovC_n _ (by omega)] at hu; exact hv i hi k u hu
theorem r_copy {b : Nat} {s0 : Int → Int} (hS : SR E M w n t s0) (hB : SR E M w n b s) (ht : t + 62 ≤ w) (hd : b + 62 ≤ t ∨ t + 62 ≤ b) : MT E yX2_copyFrom cX2_copyFrom 3 none 5 0 0 [.ref t, .ref b] n M (fun v n' M' => v = none ∧ n' = n ∧ SR E M' w n t s ∧ ∀ q, (q < t ∨ t + 62 ≤ q) → M' q = M q) := by
  obtain ⟨C, hM, hR, hv, hO⟩ := hS
  obtain ⟨C2, hM2, hR2, hv2, hO2⟩ := hB
  have hm := hO2.many
  refine (c_X2_copyFrom hM hM2 hm hR2.2.1 hd (fun i hi k k0 k1 => ?_)).mono ?_
  · rcases (hR2.2.2 i hi).2 k k0 k1 with ⟨a, -⟩ | ⟨u, a, c, -⟩
    · exact Or.inl a
    · exact Or.inr ⟨u, _, _, _, _, a, c, by have := hv2 i (by omega) k u a; omega⟩
  rintro v n' M' ⟨rfl, e2, rfl⟩
  replace e2 := e2.symm
  subst e2
  refine ⟨rfl, rfl, SR.mk (s' := s) rfl rfl rfl rfl rfl ⟨⟨rfl, rfl, rfl⟩, fun i hi => ?_, fun i hi => ?_⟩ (fun i hi k u hu => ?_) hO2, fun q g1 => StM.fa g1⟩
  · unfold cpC
    split
    · exact hR2.2.1 i hi
    · exact hR.2.1 i hi
  · have hh := hR2.2.2 i hi
    have hk := hO2.at (p := (i : Int)) (by omega) hi
    have e : cpC C2 C (s 619).toNat i = cpH (C2 i) (C i) := if_pos (by omega)
    rw [e]
    exact ⟨cpH_R hh.1 hk, cpV_R (VisR.fr hh.2 (fun k u hu => StM.fa (by have := hv2 i (by omega) k u hu; omega)))⟩
  · unfold cpC at hu
    split at hu
    · have hu2 : mixR 6 (hcv (C2 i)) (hcv (C i)) k = some u := hu
      unfold mixR at hu2
      split at hu2
      · exact hv2 i hi k u hu2
      · exact hv i hi k u hu2
    · exact hv i hi k u hu
end
