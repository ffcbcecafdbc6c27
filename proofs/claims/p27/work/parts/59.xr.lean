/-! THE SHORTEST WAY: the class's count is the reference's -/
theorem bes_iff {cl : Int64} {S : Nat} {c : Int} : ∀ k : Nat, bes cl S c k = true ↔ ∃ i, i < k ∧ S.testBit i = true ∧ cl &&& brd i c = 0
  | 0 => ⟨fun h => absurd h (by simp [bes]), fun ⟨i, h, _⟩ => absurd h (by omega)⟩
  | k + 1 => by
    unfold bes
    rw [Bool.or_eq_true, Bool.and_eq_true, decide_eq_true_iff, bes_iff k]
    constructor
    · rintro (⟨i, a, b⟩ | ⟨a, b⟩)
      · exact ⟨i, by omega, b⟩
      · exact ⟨k, by omega, a, b⟩
    · rintro ⟨i, a, b⟩
      by_cases q : i = k
      · subst q; exact Or.inr b
      · exact Or.inl ⟨i, by omega, b⟩
theorem tb_or {a b j : Nat} : (a ||| b).testBit j = true ↔ a.testBit j = true ∨ b.testBit j = true := by
  rw [Nat.testBit_or, Bool.or_eq_true]
theorem tb_if {c : Prop} [Decidable c] {k j : Nat} : (if c then 2 ^ k else 0).testBit j = true ↔ k = j ∧ c := by
  split
  · next h => rw [Nat.testBit_two_pow, decide_eq_true_iff]; exact ⟨fun q => ⟨q, h⟩, fun q => q.1⟩
  · next h => simp [h]
theorem oneN_tb {s : Int → Int} {p : Int} {cl : Int64} {S j : Nat} : ∀ k : Nat, (oneN s p cl S k).testBit j = true ↔ j < k ∧ mayBe s p j (s 618) ∧ bes cl S j 6 = true
  | 0 => by simp [oneN]
  | k + 1 => by
    unfold oneN
    rw [tb_or, tb_if, oneN_tb k]
    constructor
    · rintro (⟨a, b⟩ | ⟨a, b⟩)
      · exact ⟨by omega, b⟩
      · subst a; exact ⟨by omega, b⟩
    · rintro ⟨a, b⟩
      by_cases q : k = j
      · subst q; exact Or.inr ⟨rfl, b⟩
      · exact Or.inl ⟨by omega, b⟩
theorem rchI_tb {s : Int → Int} {set c r j : Nat} : ∀ k : Nat, (rchI s set c k r).testBit j = true ↔ r.testBit j = true ∨ (c = j ∧ ∃ i : Nat, i < k ∧ i ≠ c ∧ set.testBit i = true ∧ isOpen s i c)
  | 0 => ⟨fun h => Or.inl h, fun h => h.elim id (fun ⟨_, i, a, _⟩ => absurd a (by omega))⟩
  | k + 1 => by
    unfold rchI
    rw [tb_or, tb_if, rchI_tb k]
    constructor
    · rintro ((a | ⟨a, i, b, d⟩) | ⟨a, b⟩)
      · exact Or.inl a
      · exact Or.inr ⟨a, i, by omega, d⟩
      · exact Or.inr ⟨a, k, by omega, b⟩
    · rintro (a | ⟨a, i, b, d⟩)
      · exact Or.inl (Or.inl a)
      · by_cases q : i = k
        · subst q; exact Or.inr ⟨a, d⟩
        · exact Or.inl (Or.inr ⟨a, i, by omega, d⟩)
theorem rchO_tb {s : Int → Int} {p : Int} {set j : Nat} : ∀ k : Nat, (rchO s p set k).testBit j = true ↔ set.testBit j = true ∨ (j < k ∧ mayBe s p j (s 618) ∧ ∃ i : Nat, i < 6 ∧ i ≠ j ∧ set.testBit i = true ∧ isOpen s i j)
  | 0 => ⟨fun h => Or.inl h, fun h => h.elim id (fun ⟨a, _⟩ => absurd a (by omega))⟩
  | k + 1 => by
    unfold rchO
    by_cases hm : mayBe s p k (s 618)
    · rw [if_pos hm, rchI_tb, rchO_tb k]
      constructor
      · rintro ((a | ⟨a, b⟩) | ⟨a, b⟩)
        · exact Or.inl a
        · exact Or.inr ⟨by omega, b⟩
        · subst a; exact Or.inr ⟨by omega, hm, b⟩
      · rintro (a | ⟨a, b, d⟩)
        · exact Or.inl (Or.inl a)
        · by_cases q : k = j
          · subst q; exact Or.inr ⟨rfl, d⟩
          · exact Or.inl (Or.inr ⟨by omega, b, d⟩)
    · rw [if_neg hm, rchO_tb k]
      constructor
      · rintro (a | ⟨a, b⟩)
        · exact Or.inl a
        · exact Or.inr ⟨by omega, b⟩
      · rintro (a | ⟨a, b, d⟩)
        · exact Or.inl a
        · by_cases q : k = j
          · subst q; exact absurd b hm
          · exact Or.inr ⟨by omega, b, d⟩
theorem frch_e {s : Int → Int} {p : Int} {cl : Int64} (hC : CloR s cl) : ∀ k : Nat, frch s p cl k = rchs s p k
  | 0 => rfl
  | k + 1 => by
    unfold frch rchs
    rw [frch_e hC k]
    apply Nat.eq_of_testBit_eq
    intro j
    apply Bool.eq_iff_iff.mpr
    rw [tb_or, oneN_tb, rchO_tb, bes_iff]
    by_cases hj : (rchs s p k).testBit j = true
    · exact ⟨fun _ => Or.inl hj, fun _ => Or.inl hj⟩
    · constructor
      · rintro (a | ⟨a, b, i, c, d, e⟩)
        · exact Or.inl a
        · have hne : i ≠ j := fun q => hj (by rw [← q]; exact d)
          exact Or.inr ⟨a, b, i, c, hne, d, (hC i j (by omega) (by omega) (by omega)).mp e⟩
      · rintro (a | ⟨a, b, i, c, f, d, e⟩)
        · exact Or.inl a
        · exact Or.inr ⟨a, b, i, c, d, (hC i j (by omega) (by omega) (by omega)).mpr e⟩
theorem wayG_e {s : Int → Int} {p : Int} {cl : Int64} (hC : CloR s cl) {c : Nat} : ∀ f k : Nat, wayG s p cl c f k = wayF s p c f k
  | 0, _ => rfl
  | f + 1, k => by
    unfold wayG wayF
    rw [frch_e hC k, wayG_e hC f (k + 1)]
/-! stamps and gaps -/
section
variable {s : Int → Int} {p hm os nb jk bk r : Int} {jd jp bd bp bc : Int → Int}
theorem aft_in {f : Int → Int} {k i : Int} (h : 0 ≤ i ∧ i ≤ k) : aft f k i = f i := if_pos h
theorem bP_s (h0 : 0 ≤ r) : bP s p (r + 1) = if s (103 * p + (9 + r)) % 2 = 1 then stC s p r else -5 := by
  unfold bP
  rw [if_neg (by omega), show r + 1 - 1 = r by omega]
theorem bD_s (h0 : 0 ≤ r) : bD s p (r + 1) = stD s p r := by
  unfold bD
  rw [if_neg (by omega), show r + 1 - 1 = r by omega]
theorem ent_iff (hR : HolR s p hm os nb jd jp jk bd bp bk bc) (h : 0 ≤ r ∧ r < bk) : entC bp bk r ↔ isE s p r := by
  have hc := stC_b s p r
  unfold entC
  rw [aft_in (by omega), (hR.2.2.1 (r + 1) (by omega) (by omega)).2, bP_s h.1]
  by_cases q : s (103 * p + (9 + r)) % 2 = 1
  · rw [if_pos q]; exact ⟨fun _ => q, fun _ => by omega⟩
  · rw [if_neg q]; exact ⟨fun z => absurd rfl z, fun z => absurd z q⟩
theorem gap_iff (hR : HolR s p hm os nb jd jp jk bd bp bk bc) (h : 0 ≤ r ∧ r < bk) : gapC bp bc bk r ↔ isGap s p r := by
  have he := ent_iff hR h
  unfold gapC dueC
  rw [aft_in (by omega), (hR.2.2.1 r (by omega) (by omega)).2]
  by_cases q : isE s p r
  · rw [if_pos (he.mpr q)]; exact (isGap_e q).symm
  · rw [if_neg (fun z => q (he.mp z)), show cOf bc bk r = bc r from if_pos h, hR.2.2.2 r h.1 h.2]; exact (isGap_x q).symm
theorem gaps_eq (hR : HolR s p hm os nb jd jp jk bd bp bk bc) (hk : OkP s p) : sumI (fun r => bI (gapC bp bc bk r)) bk.toNat = gapsOf s p := by
  unfold gapsOf
  rw [← hR.1.2.2.2.2]
  exact sumI_c fun i hi => bI_e (gap_iff hR (by omega))
end
/-! THE WHOLE OBJECT: five blocks change places (the last of 'ad' is 'before'); 'now' and 'snapshot' stay -/
def blkA (o a : Nat) : Prop := a = o + 63 ∨ a = o + 188 ∨ a = o + 250 ∨ a = o + 312 ∨ a = o + 374
def XO (o : Nat) (kn : Int) (b : Nat) (kp cn ce : Int) : va_E := .inr (6, [.ref (o + 1), .ref (o + 187), .int (iI kn), .ref b, .ref (o + 125), .int (iI kp), .ref (o + 436), .int (iI cn), .int (iI ce)])
/-- the history's row -/
def hrF (ad : Int → Nat) : Int → Option Nat := fun i => some (ad i)
def upA (ad : Int → Nat) (j : Int) (x : Nat) : Int → Nat := fun i => if i = j then x else ad i
theorem hrF_up {ad : Int → Nat} {j : Int} {x : Nat} : upR (hrF ad) j (some x) = hrF (upA ad j x) := by
  funext i
  unfold upR hrF upA
  split <;> rfl
/-- where the blocks that change places stand: the history's and 'before' -/
def XA (o : Nat) (ad : Int → Nat) (b : Nat) : Prop := (∀ i, 0 ≤ i → i < 4 → blkA o (ad i)) ∧ blkA o b ∧ (∀ i j, 0 ≤ i → i < 4 → 0 ≤ j → j < 4 → i ≠ j → ad i ≠ ad j) ∧ ∀ i, 0 ≤ i → i < 4 → ad i ≠ b
/-- the blocks, when 'now' tells s and 'before' tells sb -/
def XB (E : Ev) (M : Mem) (w n o : Nat) (s sb : Int → Int) (H : Int → Int → Int) (kn : Int) (sp : Int → Int) (kp : Int) (ad : Int → Nat) (b : Nat) : Prop :=
  SR E M w n (o + 1) s ∧ SR E M w n b sb ∧ (∃ s1, SR E M w n (o + 125) s1 ∧ (kp ≠ 0 → s1 = sp)) ∧ ∀ i, 0 ≤ i → i < 4 → ∃ s1, SR E M w n (ad i) s1 ∧ (i < kn → s1 = H i)
/-- the rest of the object -/
def XD (E : Ev) (M : Mem) (w n o : Nat) (kn kp : Int) (tx : Int → Int) (ln st se : Int) (ad : Int → Nat) (b : Nat) (cn ce th nx ki pa co fo fr un da : Int) : Prop :=
  M o = XO o kn b kp cn ce ∧ M (o + 187) = ra E 3 4 (hrF ad) ∧ Bk M (o + 436) 2 (xtC E (o + 436) tx ln th nx ki pa co fo fr un da) ∧ txB tx ln ∧ (0 ≤ kn ∧ kn ≤ 4) ∧ (kp = 0 ∨ kp = 1) ∧ ((ce = 0 ∧ se = -5 ∧ st = -5) ∨ (ce ≠ 0 ∧ ce = se ∧ cn = st)) ∧ (o + 438 ≤ w ∧ w ≤ n) ∧ rg cn ∧ rg ce
def XP (E : Ev) (M : Mem) (w n o : Nat) (A : AS) (s sb : Int → Int) : Prop := ∃ (ad : Int → Nat) (b : Nat) (cn ce th nx ki pa co fo fr un da : Int), XA o ad b ∧ XB E M w n o s sb A.2.1 A.2.2.1 A.2.2.2.1 A.2.2.2.2.1 ad b ∧ XD E M w n o A.2.2.1 A.2.2.2.2.1 A.2.2.2.2.2.1 A.2.2.2.2.2.2.1 A.2.2.2.2.2.2.2.1 A.2.2.2.2.2.2.2.2 ad b cn ce th nx ki pa co fo fr un da
/-- the object tells A -/
def XR (E : Ev) (M : Mem) (w n o : Nat) (A : AS) : Prop := ∃ sb, XP E M w n o A A.1 sb
def RX (E : Ev) (M : Mem) (w n o : Nat) (g : Int × AS) : Option Value → Nat → Mem → Prop := fun v n' M' => v = some (.int (iI g.1)) ∧ n ≤ n' ∧ XR E M' w n' o g.2 ∧ ∀ q, (q < o ∨ o + 438 ≤ q) → q < n → M' q = M q
section
variable {E : Ev} {M M' : Mem} {w n n' o b : Nat} {s sb s' : Int → Int} {H : Int → Int → Int} {kn kp ln st se cn ce th nx ki pa co fo fr un da : Int} {sp tx : Int → Int} {ad : Int → Nat}
theorem blkA.inn {a : Nat} (h : blkA o a) : o + 63 ≤ a ∧ a + 62 ≤ o + 436 ∧ (a + 62 ≤ o + 125 ∨ o + 188 ≤ a) := by unfold blkA at h; omega
theorem blkA.apart {a c : Nat} (h : blkA o a) (h2 : blkA o c) (h3 : a ≠ c) : a + 62 ≤ c ∨ c + 62 ≤ a := by unfold blkA at h h2; omega
/-- 'before' told anew -/
theorem XB.bef (hA : XA o ad b) (hB : XB E M w n o s sb H kn sp kp ad b) (how : o + 438 ≤ w) (hf : ∀ q, (q < b ∨ b + 62 ≤ q) → M' q = M q) (h1 : SR E M' w n b s') : XB E M' w n o s s' H kn sp kp ad b := by
  have hb := hA.2.1.inn
  refine ⟨hB.1.fr (Nat.le_refl _) (fun q hq => hf q (by omega)), h1, ?_, fun i h0 h4 => ?_⟩
  · obtain ⟨s1, a, c⟩ := hB.2.2.1
    exact ⟨s1, a.fr (Nat.le_refl _) (fun q hq => hf q (by omega)), c⟩
  · obtain ⟨s1, a, c⟩ := hB.2.2.2 i h0 h4
    have hap := (hA.1 i h0 h4).apart hA.2.1 (hA.2.2.2 i h0 h4)
    have hi := (hA.1 i h0 h4).inn
    exact ⟨s1, a.fr (Nat.le_refl _) (fun q hq => hf q (by omega)), c⟩
/-- 'now' told anew -/
theorem XB.nowN (hA : XA o ad b) (hB : XB E M w n o s sb H kn sp kp ad b) (how : o + 438 ≤ w ∧ w ≤ n) (hn : n ≤ n') (hf : ∀ q, (q < o + 1 ∨ o + 1 + 62 ≤ q) → q < n → M' q = M q) (h1 : SR E M' w n' (o + 1) s') : XB E M' w n' o s' sb H kn sp kp ad b := by
  have hb := hA.2.1.inn
  refine ⟨h1, hB.2.1.fr hn (fun q hq => hf q (by omega) (by omega)), ?_, fun i h0 h4 => ?_⟩
  · obtain ⟨s1, a, c⟩ := hB.2.2.1
    exact ⟨s1, a.fr hn (fun q hq => hf q (by omega) (by omega)), c⟩
  · obtain ⟨s1, a, c⟩ := hB.2.2.2 i h0 h4
    have hi := (hA.1 i h0 h4).inn
    exact ⟨s1, a.fr hn (fun q hq => hf q (by omega) (by omega)), c⟩
/-- 'snapshot' told anew -/
theorem XB.snp {sp' : Int → Int} {kp' : Int} (hA : XA o ad b) (hB : XB E M w n o s sb H kn sp kp ad b) (how : o + 438 ≤ w) (hf : ∀ q, (q < o + 125 ∨ o + 125 + 62 ≤ q) → M' q = M q) (h1 : SR E M' w n (o + 125) sp') : XB E M' w n o s sb H kn sp' kp' ad b := by
  have hb := hA.2.1.inn
  refine ⟨hB.1.fr (Nat.le_refl _) (fun q hq => hf q (by omega)), hB.2.1.fr (Nat.le_refl _) (fun q hq => hf q (by omega)), ⟨sp', h1, fun _ => rfl⟩, fun i h0 h4 => ?_⟩
  obtain ⟨s1, a, c⟩ := hB.2.2.2 i h0 h4
  have hi := (hA.1 i h0 h4).inn
  exact ⟨s1, a.fr (Nat.le_refl _) (fun q hq => hf q (by omega)), c⟩
/-- what lies outside the blocks changes -/
theorem XB.frm (hA : XA o ad b) (hB : XB E M w n o s sb H kn sp kp ad b) (how : o + 438 ≤ w ∧ w ≤ n) (hn : n ≤ n') (hf : ∀ q, (o + 1 ≤ q ∧ q < o + 187) ∨ (o + 188 ≤ q ∧ q < o + 436) ∨ (w ≤ q ∧ q < n) → M' q = M q) : XB E M' w n' o s sb H kn sp kp ad b := by
  have hb := hA.2.1.inn
  refine ⟨hB.1.fr hn (fun q hq => hf q (by omega)), hB.2.1.fr hn (fun q hq => hf q (by have hb2 := hA.2.1; unfold blkA at hb2; omega)), ?_, fun i h0 h4 => ?_⟩
  · obtain ⟨s1, a, c⟩ := hB.2.2.1
    exact ⟨s1, a.fr hn (fun q hq => hf q (by omega)), c⟩
  · obtain ⟨s1, a, c⟩ := hB.2.2.2 i h0 h4
    have hi := (hA.1 i h0 h4)
    exact ⟨s1, a.fr hn (fun q hq => hf q (by unfold blkA at hi; omega)), c⟩
theorem XD.frm (h : XD E M w n o kn kp tx ln st se ad b cn ce th nx ki pa co fo fr un da) (hn : n ≤ n') (hf : ∀ q, q = o ∨ q = o + 187 ∨ q = o + 436 ∨ q = o + 437 → M' q = M q) : XD E M' w n' o kn kp tx ln st se ad b cn ce th nx ki pa co fo fr un da := by
  obtain ⟨h0, h1, h2, h3, h4, h5, h6, h7, h8⟩ := h
  exact ⟨(hf _ (by omega)).trans h0, (hf _ (by omega)).trans h1, Bk.fr h2 (fun q a c => hf q (by omega)), h3, h4, h5, h6, ⟨h7.1, by omega⟩, h8⟩
end
/-! the acts, as what 'recorded' makes of them -/
section
variable {A : AS}
theorem actA_n {z : Int} {s : Int → Int} (h : z < 0) : actA A (z, s) = (z, A) := if_pos h
theorem actA_p {z : Int} {s : Int → Int} (h : ¬ z < 0) : actA A (z, s) = (z, recA A s) := if_neg h
theorem issue_e (hO : Ok A.1) (h : Int) : a_issue A h = actA A (g_issue A.1 h) := by
  have hm := hO.many
  unfold a_issue g_issue
  split
  · exact (actA_n (by decide)).symm
  · split
    · exact (actA_n (by decide)).symm
    · exact (actA_p (by omega)).symm
theorem renew_e (hO : Ok A.1) (p : Int) : a_renew A p = actA A (g_renew A.1 p) := by
  have hm := hO.many
  unfold a_renew g_renew
  split
  · exact (actA_n (by decide)).symm
  · have := (hO.at (p := p) (by omega) (by omega)).stm
    exact (actA_p (by omega)).symm
theorem grant_e (p c a u d : Int) : a_grant A p c a u d = actA A (g_grant A.1 p c a u d) := by
  have hb := errGrant_b A.1 p c a u d
  unfold a_grant g_grant
  split
  · exact (actA_n (by omega)).symm
  · have := usedOn_b (grantS A.1 p c a u d) p c (grantS A.1 p c a u d 618)
    exact (actA_p (by omega)).symm
theorem revoke_e (p c : Int) : a_revoke A p c = actA A (g_revoke A.1 p c) := by
  unfold a_revoke g_revoke
  split
  · exact (actA_n (by decide)).symm
  · split
    · exact (actA_n (by decide)).symm
    · have := usedOn_b A.1 p c (A.1 618)
      exact (actA_p (by omega)).symm
theorem turn_e (a b : Int) : a_turn A a b = actA A (g_turn A.1 a b) := by
  unfold a_turn g_turn
  split
  · exact (actA_n (by decide)).symm
  · split
    · exact (actA_n (by decide)).symm
    · have := closed_popc (turnS A.1 a b)
      exact (actA_p (by omega)).symm
theorem cross_e (hO : Ok A.1) (p c f : Int) : a_cross A p c f = actA A (g_cross A.1 p c f) := by
  have hb := errCross_b A.1 p c f
  unfold a_cross g_cross
  split
  · exact (actA_n (by omega)).symm
  · next q =>
    have hg := errCross_ok hO (Decidable.byContradiction q)
    have hO' := hO.cross hg.1 hg.2.1 hg.2.2.1 hg.2.2.2.2.1 hg.2.2.2.2.2.1
    have hk := hO.at (p := p) hg.1.1 hg.1.2
    have hm := hO.many
    have e9 : crossS A.1 p c f 619 = A.1 619 := crossS_n (by omega) (by omega) (by omega) hg.2.2.1 ⟨hk.stm.1, hg.2.2.2.2.1⟩ ⟨hk.crs.1, hg.2.2.2.2.2.1⟩
    have := (hO'.at (p := p) hg.1.1 (by omega)).stm
    exact (actA_p (by omega)).symm
theorem overN_b (s : Int → Int) : ∀ k : Nat, 0 ≤ overN s k
  | 0 => Int.le_refl 0
  | k + 1 => by
    have e : overN s (k + 1) = overN s k + bI (isOver (overS s k) k) := rfl
    have := overN_b s k
    have := bI_b (isOver (overS s k) k)
    omega
theorem daysN_b (s : Int → Int) : ∀ k : Nat, 0 ≤ daysN s k
  | 0 => Int.le_refl 0
  | k + 1 => by
    have e : daysN s (k + 1) = daysN s k + overN (daysS s k) (daysS s k 619).toNat := rfl
    have := daysN_b s k
    have := overN_b (daysS s k) (daysS s k 619).toNat
    omega
theorem pass_e (d : Int) : a_pass A d = actA A (g_pass A.1 d) := by
  have hb := errPass_b A.1 d
  unfold a_pass g_pass
  split
  · exact (actA_n (by omega)).symm
  · have := daysN_b A.1 d.toNat
    exact (actA_p (by omega)).symm
end
