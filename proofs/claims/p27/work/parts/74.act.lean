/-! AN ACT by a number, as the law does it -/
def lowZ (z n : Int) : Int := (iI z &&& 2147483647).toInt % n
def shrZ (z k : Int) : Int := (iI z >>> (iI k &&& 31)).toInt
def andZ (z k : Int) : Int := (iI z &&& iI k).toInt
theorem shrE (z k : Int) : iI z >>> (iI k &&& 31) = iI (shrZ z k) := iI_sat _
theorem andE (z k : Int) : iI z &&& iI k = iI (andZ z k) := iI_sat _
theorem lowE (z : Int) : iI z &&& 2147483647 = iI (iI z &&& 2147483647).toInt := iI_sat _
theorem i32_rg (x : Int32) : rg x.toInt := by
  have h1 := Int32.le_toInt x
  have h2 := Int32.toInt_lt x
  constructor
  · simpa using h1
  · simpa using h2
theorem land_b (x : Int32) : 0 ≤ (x &&& 2147483647).toInt ∧ (x &&& 2147483647).toInt < 2147483648 := by
  refine ⟨?_, (i32_rg _).2⟩
  show 0 ≤ (x.toBitVec &&& 2147483647#32).toInt
  have hm : (x.toBitVec &&& 2147483647#32).msb = false := by
    rw [BitVec.msb_and]
    rw [show (2147483647#32).msb = false from by decide, Bool.and_false]
  rw [BitVec.toInt_eq_msb_cond, hm]
  simp
theorem lowZ_b {z n : Int} (hn : 0 < n) : 0 ≤ lowZ z n ∧ lowZ z n < n := ⟨Int.emod_nonneg _ (by omega), Int.emod_lt_of_pos _ hn⟩
theorem andZ_rg (z k : Int) : rg (andZ z k) := i32_rg _
abbrev isA (v : Int) : Prop := 0 < lowZ (shrZ v 22) 7
def kA (s : Int → Int) (v : Int) : Int := lowZ (shrZ v 5) (if isA v ∧ 0 < s 619 then s 619 else s 619 + 1)
def cA (v : Int) : Int := lowZ (shrZ (shrZ v 5) 2) (if isA v then 6 else 7)
def frA (v : Int) : Int := lowZ (shrZ (shrZ v 5) 4) (if isA v then 60 else 1100)
def unA (v : Int) : Int := if isA v then frA v + lowZ (shrZ (shrZ v 5) 7) 30 else lowZ (shrZ (shrZ v 5) 7) 1100
def dyA (v : Int) : Int := lowZ (shrZ (shrZ v 5) 9) (if andZ (shrZ (shrZ v 5) 12) 1 = 0 then 100 else 7)
def fgA (v : Int) : Int := if lowZ (shrZ (shrZ v 5) 6) 13 < (if isA v then 4 else 6) then lowZ (shrZ (shrZ v 5) 6) 13 else 0
def otA (v : Int) : Int := lowZ (shrZ (shrZ v 5) 5) 6
def psA (v : Int) : Int := lowZ (shrZ v 5) (if isA v then 8 else 120)
def gAct (s : Int → Int) (v : Int) : Int × (Int → Int) := if lowZ v 32 < 2 then g_issue s (cA v) else if lowZ v 32 < 10 then g_grant s (kA s v) (cA v) (frA v) (unA v) (dyA v) else if lowZ v 32 < 22 then g_cross s (kA s v) (cA v) (fgA v) else if lowZ v 32 < 24 then g_turn s (cA v) (otA v) else if lowZ v 32 = 24 then g_renew s (kA s v) else if lowZ v 32 = 25 then g_revoke s (kA s v) (cA v) else g_pass s (psA v)
section
variable {s : Int → Int} {v e : Int}
theorem kA_b (h : Ok s) (v : Int) : 0 ≤ kA s v ∧ kA s v ≤ 6 := by
  have hm := h.many
  unfold kA
  by_cases q : isA v ∧ 0 < s 619
  · rw [if_pos q]; have := lowZ_b (z := shrZ v 5) (n := s 619) q.2; omega
  · rw [if_neg q]; have := lowZ_b (z := shrZ v 5) (n := s 619 + 1) (by omega); omega
theorem if_lowb {P : Prop} [Decidable P] {z a b : Int} (ha : 0 < a ∧ a ≤ 2000) (hb : 0 < b ∧ b ≤ 2000) : 0 ≤ lowZ z (if P then a else b) ∧ lowZ z (if P then a else b) < 2000 := by
  split
  · have := lowZ_b (z := z) ha.1; omega
  · have := lowZ_b (z := z) hb.1; omega
theorem cA_b (v : Int) : 0 ≤ cA v ∧ cA v < 2000 := if_lowb (by decide) (by decide)
theorem frA_b (v : Int) : 0 ≤ frA v ∧ frA v < 2000 := if_lowb (by decide) (by decide)
theorem dyA_b (v : Int) : 0 ≤ dyA v ∧ dyA v < 2000 := if_lowb (by decide) (by decide)
theorem psA_b (v : Int) : 0 ≤ psA v ∧ psA v < 2000 := if_lowb (by decide) (by decide)
theorem otA_b (v : Int) : 0 ≤ otA v ∧ otA v < 6 := lowZ_b (by decide)
theorem unA_b (v : Int) : 0 ≤ unA v ∧ unA v < 3000 := by
  have h1 := frA_b v
  have h2 := lowZ_b (z := shrZ (shrZ v 5) 7) (n := 30) (by decide)
  have h3 := lowZ_b (z := shrZ (shrZ v 5) 7) (n := 1100) (by decide)
  unfold unA
  split <;> omega
theorem fgA_b (v : Int) : 0 ≤ fgA v ∧ fgA v < 13 := by
  have h2 := lowZ_b (z := shrZ (shrZ v 5) 6) (n := 13) (by decide)
  unfold fgA
  split <;> omega
theorem gAct_ok (h : Ok s) (v : Int) : gOk s (gAct s v) := by
  unfold gAct
  split
  · exact issue_ok h _
  · split
    · exact grant_ok h _ _ _ _ _
    · split
      · exact cross_ok h _ _ _
      · split
        · exact turn_ok _ _
        · split
          · exact renew_ok h _
          · split
            · exact revoke_ok h _ _
            · exact pass_ok h _
theorem issue_inv (h : Inv s e) (he : 0 ≤ e) {z : Int} (q : ¬ (g_issue s z).1 < 0) : Inv (g_issue s z).2 (e + 1) := by
  have hm := h.1.many
  unfold g_issue at q ⊢
  split at q
  · exact absurd (show (-1 : Int) < 0 by decide) q
  · next a =>
    split at q
    · exact absurd (show (-3 : Int) < 0 by decide) q
    · next b =>
      rw [if_neg a, if_neg b]
      exact h.issue he (by omega) (by omega)
theorem renew_inv (h : Inv s e) {p : Int} (q : ¬ (g_renew s p).1 < 0) : Inv (g_renew s p).2 (e + 1) := by
  unfold g_renew at q ⊢
  split at q
  · exact absurd (show (-1 : Int) < 0 by decide) q
  · next a =>
    rw [if_neg a]
    exact h.renew (by omega) (h.1.at (p := p) (by omega) (by omega)).whr
theorem grant_inv (h : Inv s e) {p c a u d : Int} (q : ¬ (g_grant s p c a u d).1 < 0) : Inv (g_grant s p c a u d).2 (e + 1) := by
  have hb := errGrant_b s p c a u d
  unfold g_grant at q ⊢
  split at q
  · next z => exact absurd (show errGrant s p c a u d < 0 by omega) q
  · next z =>
    rw [if_neg z]
    exact h.grant (Decidable.byContradiction z)
theorem revoke_inv (h : Inv s e) {p c : Int} (q : ¬ (g_revoke s p c).1 < 0) : Inv (g_revoke s p c).2 (e + 1) := by
  unfold g_revoke at q ⊢
  split at q
  · exact absurd (show (-1 : Int) < 0 by decide) q
  · next a =>
    have a' : areT s p c := Decidable.byContradiction a
    unfold areT at a'
    split at q
    · exact absurd (show (-5 : Int) < 0 by decide) q
    · next b =>
      rw [if_neg a, if_neg b]
      exact h.revoke (by omega) (by omega)
theorem turn_inv (h : Inv s e) {a b : Int} (q : ¬ (g_turn s a b).1 < 0) : Inv (g_turn s a b).2 (e + 1) := by
  unfold g_turn at q ⊢
  split at q
  · exact absurd (show (-1 : Int) < 0 by decide) q
  · next z =>
    split at q
    · exact absurd (show (-2 : Int) < 0 by decide) q
    · next y =>
      rw [if_neg z, if_neg y]
      exact h.turn (by omega) (by omega) y
theorem cross_inv (h : Inv s e) {p c f : Int} (q : ¬ (g_cross s p c f).1 < 0) : Inv (g_cross s p c f).2 (e + 1) := by
  have hb := errCross_b s p c f
  unfold g_cross at q ⊢
  split at q
  · next z => exact absurd (show errCross s p c f < 0 by omega) q
  · next z =>
    rw [if_neg z]
    exact h.cross (Decidable.byContradiction z)
theorem pass_inv (h : Inv s e) {d : Int} (q : ¬ (g_pass s d).1 < 0) : Inv (g_pass s d).2 (e + 1) := by
  have hb := errPass_b s d
  unfold g_pass at q ⊢
  split at q
  · next z => exact absurd (show errPass s d < 0 by omega) q
  · next z =>
    rw [if_neg z]
    have := errPass_ok (Decidable.byContradiction z)
    exact h.pass (by omega)
theorem gAct_inv (h : Inv s e) (he : 0 ≤ e) {v : Int} (q : ¬ (gAct s v).1 < 0) : Inv (gAct s v).2 (e + 1) := by
  unfold gAct at q ⊢
  split at q
  · next a => rw [if_pos a]; exact issue_inv h he q
  · next a =>
    rw [if_neg a]
    split at q
    · next b => rw [if_pos b]; exact grant_inv h q
    · next b =>
      rw [if_neg b]
      split at q
      · next c => rw [if_pos c]; exact cross_inv h q
      · next c =>
        rw [if_neg c]
        split at q
        · next d => rw [if_pos d]; exact turn_inv h q
        · next d =>
          rw [if_neg d]
          split at q
          · next f => rw [if_pos f]; exact renew_inv h q
          · next f =>
            rw [if_neg f]
            split at q
            · next g => rw [if_pos g]; exact revoke_inv h q
            · next g => rw [if_neg g]; exact pass_inv h q
end
