/-! what an act's answer is: small, and an error changes nothing -/
abbrev gOk (s : Int → Int) (g : Int × (Int → Int)) : Prop := rg g.1 ∧ (g.1 < 0 → g.2 = s)
theorem actA_1 {A : AS} {g : Int × (Int → Int)} : (actA A g).1 = g.1 := by
  unfold actA
  split <;> rfl
section
variable {s : Int → Int}
theorem gOk_e {z : Int} (h : -100 ≤ z ∧ z < 0) : gOk s (z, s) := ⟨by constructor <;> dsimp only <;> omega, fun _ => rfl⟩
theorem gOk_y {z : Int} {t : Int → Int} (h : 0 ≤ z ∧ z ≤ 100000) : gOk s (z, t) := ⟨by constructor <;> dsimp only <;> omega, fun q => absurd q (by dsimp only; omega)⟩
theorem issue_ok (hO : Ok s) (h : Int) : gOk s (g_issue s h) := by
  have hm := hO.many
  unfold g_issue
  split
  · exact gOk_e (by omega)
  · split
    · exact gOk_e (by omega)
    · exact gOk_y (by omega)
theorem renew_ok (hO : Ok s) (p : Int) : gOk s (g_renew s p) := by
  unfold g_renew
  split
  · exact gOk_e (by omega)
  · have := (hO.at (p := p) (by omega) (by omega)).stm
    exact gOk_y (by omega)
theorem grant_ok (hO : Ok s) (p c a u d : Int) : gOk s (g_grant s p c a u d) := by
  have hb := errGrant_b s p c a u d
  unfold g_grant
  split
  · exact gOk_e (by omega)
  · next q =>
    have hg := errGrant_ok (Decidable.byContradiction q)
    have hO' := hO.grant hg.1 hg.2.1 hg.2.2.1 hg.2.2.2.1 hg.2.2.2.2.1
    have hm := hO.many
    have := usedOn_b2 (hO'.at (p := p) hg.1.1 (by rw [grantS_n (by omega)]; exact hg.1.2)) (c := c) hg.2.1.1 hg.2.1.2 (grantS s p c a u d 618)
    exact gOk_y (by omega)
theorem revoke_ok (hO : Ok s) (p c : Int) : gOk s (g_revoke s p c) := by
  unfold g_revoke
  split
  · exact gOk_e (by omega)
  · next q =>
    have q' : areT s p c := Decidable.byContradiction q
    unfold areT at q'
    split
    · exact gOk_e (by omega)
    · have := usedOn_b2 (hO.at (p := p) (by omega) (by omega)) (c := c) (by omega) (by omega) (s 618)
      exact gOk_y (by omega)
theorem turn_ok (a b : Int) : gOk s (g_turn s a b) := by
  unfold g_turn
  split
  · exact gOk_e (by omega)
  · split
    · exact gOk_e (by omega)
    · have h1 := closed_popc (turnS s a b)
      have h2 := popc_b (turnS s a b 620).toNat 15
      exact gOk_y (by omega)
theorem cross_ok (hO : Ok s) (p c f : Int) : gOk s (g_cross s p c f) := by
  have hb := errCross_b s p c f
  unfold g_cross
  split
  · exact gOk_e (by omega)
  · next q =>
    have hg := errCross_ok hO (Decidable.byContradiction q)
    have hO' := hO.cross hg.1 hg.2.1 hg.2.2.1 hg.2.2.2.2.1 hg.2.2.2.2.2.1
    have hk := hO.at (p := p) hg.1.1 hg.1.2
    have hm := hO.many
    have e9 : crossS s p c f 619 = s 619 := crossS_n (by omega) (by omega) (by omega) hg.2.2.1 ⟨hk.stm.1, hg.2.2.2.2.1⟩ ⟨hk.crs.1, hg.2.2.2.2.2.1⟩
    have := (hO'.at (p := p) hg.1.1 (by omega)).stm
    exact gOk_y (by omega)
theorem overN_u (hO : Ok s) : overN s (s 619).toNat ≤ 6 := by
  have hm := hO.many
  rw [overN_e hO _ (by omega)]
  have := (sumI_le (f := fun i => bI (¬ mayBe s i (s (103 * i + 2)) (s 618))) (fun i => bI_b _) (s 619).toNat).2
  omega
theorem daysN_u (hO : Ok s) : ∀ k : Nat, s 618 + k ≤ 999 → daysN s k ≤ 6 * k
  | 0, _ => by show (0 : Int) ≤ _; omega
  | k + 1, h => by
    have e : daysN s (k + 1) = daysN s k + overN (daysS s k) (daysS s k 619).toNat := rfl
    have h1 := daysN_u hO k (by omega)
    have h2 := overN_u (hO.daysS k (by omega)).1
    omega
theorem pass_ok (hO : Ok s) (d : Int) : gOk s (g_pass s d) := by
  have hb := errPass_b s d
  unfold g_pass
  split
  · exact gOk_e (by omega)
  · next q =>
    have hg := errPass_ok (Decidable.byContradiction q)
    have h1 := daysN_b s d.toNat
    have h2 := daysN_u hO d.toNat (by omega)
    exact gOk_y (by omega)
/-- one thing of a text, done -/
def g1 (s : Int → Int) (r : TH) : Int × (Int → Int) := if r.2.2.1 = 46 then g_pass s r.2.2.2.1 else if r.2.2.1 = 120 then g_cross s r.2.2.2.1 r.2.2.2.2.1 r.2.2.2.2.2.1 else g_grant s r.2.2.2.1 r.2.2.2.2.1 r.2.2.2.2.2.1 r.2.2.2.2.2.2.1 r.2.2.2.2.2.2.2
theorem g1_ok (hO : Ok s) (r : TH) : gOk s (g1 s r) := by
  unfold g1
  split
  · exact pass_ok hO _
  · split
    · exact cross_ok hO _ _ _
    · exact grant_ok hO _ _ _ _ _
theorem g1_n {r : TH} (h : err1 s r ≠ 0) : g1 s r = (err1 s r, s) := by
  unfold err1 errOne at h ⊢
  unfold g1
  split
  · next q => rw [if_pos q] at h; unfold g_pass; rw [if_pos h]
  · next q =>
    rw [if_neg q] at h
    split
    · next q2 => rw [if_pos q2] at h; unfold g_cross; rw [if_pos h]
    · next q2 => rw [if_neg q2] at h; unfold g_grant; rw [if_pos h]
theorem g1_y {r : TH} (h : err1 s r = 0) : g1 s r = do1 s r := by
  unfold err1 errOne at h
  unfold g1 do1 doOne
  split
  · next q => rw [if_pos q] at h; unfold g_pass; rw [if_neg (fun z => z h)]
  · next q =>
    rw [if_neg q] at h
    split
    · next q2 => rw [if_pos q2] at h; unfold g_cross; rw [if_neg (fun z => z h)]
    · next q2 => rw [if_neg q2] at h; unfold g_grant; rw [if_neg (fun z => z h)]
theorem err1_b (s : Int → Int) (r : TH) : -16 ≤ err1 s r ∧ err1 s r ≤ 0 := errOne_b _ _ _ _ _ _ _
theorem do1_b (hO : Ok s) {r : TH} (h : err1 s r = 0) : 0 ≤ (do1 s r).1 := by
  have h9 := g1_ok hO r
  have h8 : ¬ (g1 s r).1 < 0 := fun q => by
    unfold err1 errOne at h
    unfold g1 at q
    split at q
    · next e => rw [if_pos e] at h; unfold g_pass at q; rw [if_neg (fun z => z h)] at q; have := daysN_b s r.2.2.2.1.toNat; have q' : daysN s r.2.2.2.1.toNat < 0 := q; omega
    · next e =>
      rw [if_neg e] at h
      split at q
      · next e2 =>
        rw [if_pos e2] at h
        have hg := errCross_ok hO h
        have hO' := hO.cross hg.1 hg.2.1 hg.2.2.1 hg.2.2.2.2.1 hg.2.2.2.2.2.1
        have hk := hO.at hg.1.1 hg.1.2
        have hm := hO.many
        have e9 : crossS s r.2.2.2.1 r.2.2.2.2.1 r.2.2.2.2.2.1 619 = s 619 := crossS_n (by omega) (by omega) (by omega) hg.2.2.1 ⟨hk.stm.1, hg.2.2.2.2.1⟩ ⟨hk.crs.1, hg.2.2.2.2.2.1⟩
        have := (hO'.at (p := r.2.2.2.1) hg.1.1 (by omega)).stm
        unfold g_cross at q
        rw [if_neg (fun z => z h)] at q
        have q' : crossS s r.2.2.2.1 r.2.2.2.2.1 r.2.2.2.2.2.1 (103 * r.2.2.2.1 + 8) < 0 := q
        omega
      · next e2 =>
        rw [if_neg e2] at h
        unfold g_grant at q
        rw [if_neg (fun z => z h)] at q
        have := usedOn_b (grantS s r.2.2.2.1 r.2.2.2.2.1 r.2.2.2.2.2.1 r.2.2.2.2.2.2.1 r.2.2.2.2.2.2.2) r.2.2.2.1 r.2.2.2.2.1 (grantS s r.2.2.2.1 r.2.2.2.2.1 r.2.2.2.2.2.1 r.2.2.2.2.2.2.1 r.2.2.2.2.2.2.2 618)
        have q' : usedOn (grantS s r.2.2.2.1 r.2.2.2.2.1 r.2.2.2.2.2.1 r.2.2.2.2.2.2.1 r.2.2.2.2.2.2.2) r.2.2.2.1 r.2.2.2.2.1 (grantS s r.2.2.2.1 r.2.2.2.2.1 r.2.2.2.2.2.1 r.2.2.2.2.2.2.1 r.2.2.2.2.2.2.2 618) < 0 := q
        omega
  rw [← g1_y h]; omega
end
/-! the reading alone: bounds -/
theorem RF_b {tx : Int → Int} {ln : Int} (ht : txB tx ln) : ∀ (k : Nat) {sp n : Int}, 0 ≤ sp ∧ sp ≤ ln → (0 ≤ (RF tx ln k sp n).2.1 ∧ (RF tx ln k sp n).2.1 ≤ ln) ∧ n ≤ (RF tx ln k sp n).1 ∧ (RF tx ln k sp n).1 ≤ n + k
  | 0, sp, n, h => by
    show (0 ≤ sp ∧ sp ≤ ln) ∧ n ≤ n ∧ n ≤ n + (0 : Nat)
    omega
  | k + 1, sp, n, h => by
    have rb := (rd1_b (f1 := 0) (f2 := 0) (f3 := 0) (f4 := 0) (f5 := 0) ht h).1
    have tb := tkS_b (tx := tx) (ln := ln) (sp := (rd1 tx ln sp 0 0 0 0 0).1) (wr := 0) (lo := 59) (hi := 59) rb
    unfold RF
    split
    · split
      · split
        · have := RF_b ht k (sp := tkS tx ln (rd1 tx ln sp 0 0 0 0 0).1 0 59 59) (n := n + 1) (by omega)
          omega
        · dsimp only; omega
      · dsimp only; omega
    · dsimp only; omega
theorem RF_gt {tx : Int → Int} {ln : Int} (ht : txB tx ln) {f : Nat} {sp n : Int} (hf : 0 < f) (hs : 0 ≤ sp ∧ sp ≤ ln) (h : (RF tx ln f sp n).2.2 = 0) : n < (RF tx ln f sp n).1 := by
  have h1 := RF_free hf h
  by_cases q : (rd1 tx ln sp 0 0 0 0 0).1 < ln
  · have h2 := h1.2 q
    rw [RF_step hf h1.1 q h2.1]
    have rb := (rd1_b (f1 := 0) (f2 := 0) (f3 := 0) (f4 := 0) (f5 := 0) ht hs).1
    have tb := tkS_b (tx := tx) (ln := ln) (sp := (rd1 tx ln sp 0 0 0 0 0).1) (wr := 0) (lo := 59) (hi := 59) rb
    have := RF_b ht (f - 1) (sp := tkS tx ln (rd1 tx ln sp 0 0 0 0 0).1 0 59 59) (n := n + 1) (by omega)
    omega
  · rw [RF_done hf h1.1 q]
    dsimp only; omega
