/-! THE SHORTEST WAY: the class's count is the reference's -/
theorem bes_iff {cl : Int64} {S : Nat} {c : Int} : ∀ k : Nat, bes cl S c k = true ↔ ∃ i, i < k ∧ S.testBit i = true ∧ cl &&& brd i c = 0
  | 0 => ⟨fun h => absurd h (by simp [bes]), fun ⟨i, h, _⟩ => absurd h (by omega)⟩
  | k + 1 => by
    unfold bes
    rw [Bool.or_eq_true, Bool.and_eq_true, decide_eq_true_iff, bes_iff k]
    constructor
    · rintro (⟨i, a, b⟩ | ⟨a, b⟩)
      · exact ⟨i, by omega, b⟩
      · exact ⟨k, by omega, a, b⟩
    · rintro ⟨i, a, b⟩
      by_cases q : i = k
      · subst q; exact Or.inr b
      · exact Or.inl ⟨i, by omega, b⟩
theorem tb_or {a b j : Nat} : (a ||| b).testBit j = true ↔ a.testBit j = true ∨ b.testBit j = true := by
  rw [Nat.testBit_or, Bool.or_eq_true]
theorem tb_if {c : Prop} [Decidable c] {k j : Nat} : (if c then 2 ^ k else 0).testBit j = true ↔ k = j ∧ c := by
  split
  · next h => rw [Nat.testBit_two_pow, decide_eq_true_iff]; exact ⟨fun q => ⟨q, h⟩, fun q => q.1⟩
  · next h => simp [h]
theorem oneN_tb {s : Int → Int} {p : Int} {cl : Int64} {S j : Nat} : ∀ k : Nat, (oneN s p cl S k).testBit j = true ↔ j < k ∧ mayBe s p j (s 618) ∧ bes cl S j 6 = true
  | 0 => by simp [oneN]
  | k + 1 => by
    unfold oneN
    rw [tb_or, tb_if, oneN_tb k]
    constructor
    · rintro (⟨a, b⟩ | ⟨a, b⟩)
      · exact ⟨by omega, b⟩
      · subst a; exact ⟨by omega, b⟩
    · rintro ⟨a, b⟩
      by_cases q : k = j
      · subst q; exact Or.inr ⟨rfl, b⟩
      · exact Or.inl ⟨by omega, b⟩
theorem rchI_tb {s : Int → Int} {set c r j : Nat} : ∀ k : Nat, (rchI s set c k r).testBit j = true ↔ r.testBit j = true ∨ (c = j ∧ ∃ i : Nat, i < k ∧ i ≠ c ∧ set.testBit i = true ∧ isOpen s i c)
  | 0 => ⟨fun h => Or.inl h, fun h => h.elim id (fun ⟨_, i, a, _⟩ => absurd a (by omega))⟩
  | k + 1 => by
    unfold rchI
    rw [tb_or, tb_if, rchI_tb k]
    constructor
    · rintro ((a | ⟨a, i, b, d⟩) | ⟨a, b⟩)
      · exact Or.inl a
      · exact Or.inr ⟨a, i, by omega, d⟩
      · exact Or.inr ⟨a, k, by omega, b⟩
    · rintro (a | ⟨a, i, b, d⟩)
      · exact Or.inl (Or.inl a)
      · by_cases q : i = k
        · subst q; exact Or.inr ⟨a, d⟩
        · exact Or.inl (Or.inr ⟨a, i, by omega, d⟩)
theorem rchO_tb {s : Int → Int} {p : Int} {set j : Nat} : ∀ k : Nat, (rchO s p set k).testBit j = true ↔ set.testBit j = true ∨ (j < k ∧ mayBe s p j (s 618) ∧ ∃ i : Nat, i < 6 ∧ i ≠ j ∧ set.testBit i = true ∧ isOpen s i j)
  | 0 => ⟨fun h => Or.inl h, fun h => h.elim id (fun ⟨a, _⟩ => absurd a (by omega))⟩
  | k + 1 => by
    unfold rchO
    by_cases hm : mayBe s p k (s 618)
    · rw [if_pos hm, rchI_tb, rchO_tb k]
      constructor
      · rintro ((a | ⟨a, b⟩) | ⟨a, b⟩)
        · exact Or.inl a
        · exact Or.inr ⟨by omega, b⟩
        · subst a; exact Or.inr ⟨by omega, hm, b⟩
      · rintro (a | ⟨a, b, d⟩)
        · exact Or.inl (Or.inl a)
        · by_cases q : k = j
          · subst q; exact Or.inr ⟨rfl, d⟩
          · exact Or.inl (Or.inr ⟨by omega, b, d⟩)
    · rw [if_neg hm, rchO_tb k]
      constructor
      · rintro (a | ⟨a, b⟩)
        · exact Or.inl a
        · exact Or.inr ⟨by omega, b⟩
      · rintro (a | ⟨a, b, d⟩)
        · exact Or.inl a
        · by_cases q : k = j
          · subst q; exact absurd b hm
          · exact Or.inr ⟨by omega, b, d⟩
theorem frch_e {s : Int → Int} {p : Int} {cl : Int64} (hC : CloR s cl) : ∀ k : Nat, frch s p cl k = rchs s p k
  | 0 => rfl
  | k + 1 => by
    unfold frch rchs
    rw [frch_e hC k]
    apply Nat.eq_of_testBit_eq
    intro j
    apply Bool.eq_iff_iff.mpr
    rw [tb_or, oneN_tb, rchO_tb, bes_iff]
    by_cases hj : (rchs s p k).testBit j = true
    · exact ⟨fun _ => Or.inl hj, fun _ => Or.inl hj⟩
    · constructor
      · rintro (a | ⟨a, b, i, c, d, e⟩)
        · exact Or.inl a
        · have hne : i ≠ j := fun q => hj (by rw [← q]; exact d)
          exact Or.inr ⟨a, b, i, c, hne, d, (hC i j (by omega) (by omega) (by omega)).mp e⟩
      · rintro (a | ⟨a, b, i, c, f, d, e⟩)
        · exact Or.inl a
        · exact Or.inr ⟨a, b, i, c, d, (hC i j (by omega) (by omega) (by omega)).mpr e⟩
theorem wayG_e {s : Int → Int} {p : Int} {cl : Int64} (hC : CloR s cl) {c : Nat} : ∀ f k : Nat, wayG s p cl c f k = wayF s p c f k
  | 0, _ => rfl
  | f + 1, k => by
    unfold wayG wayF
    rw [frch_e hC k, wayG_e hC f (k + 1)]
/-! stamps and gaps -/
section
variable {s : Int → Int} {p hm os nb jk bk r : Int} {jd jp bd bp bc : Int → Int}
theorem aft_in {f : Int → Int} {k i : Int} (h : 0 ≤ i ∧ i ≤ k) : aft f k i = f i := if_pos h
theorem bP_s (h0 : 0 ≤ r) : bP s p (r + 1) = if s (103 * p + (9 + r)) % 2 = 1 then stC s p r else -5 := by
  unfold bP
  rw [if_neg (by omega), show r + 1 - 1 = r by omega]
theorem bD_s (h0 : 0 ≤ r) : bD s p (r + 1) = stD s p r := by
  unfold bD
  rw [if_neg (by omega), show r + 1 - 1 = r by omega]
theorem ent_iff (hR : HolR s p hm os nb jd jp jk bd bp bk bc) (h : 0 ≤ r ∧ r < bk) : entC bp bk r ↔ isE s p r := by
  have hc := stC_b s p r
  unfold entC
  rw [aft_in (by omega), (hR.2.2.1 (r + 1) (by omega) (by omega)).2, bP_s h.1]
  by_cases q : s (103 * p + (9 + r)) % 2 = 1
  · rw [if_pos q]; exact ⟨fun _ => q, fun _ => by omega⟩
  · rw [if_neg q]; exact ⟨fun z => absurd rfl z, fun z => absurd z q⟩
theorem gap_iff (hR : HolR s p hm os nb jd jp jk bd bp bk bc) (h : 0 ≤ r ∧ r < bk) : gapC bp bc bk r ↔ isGap s p r := by
  have he := ent_iff hR h
  unfold gapC dueC
  rw [aft_in (by omega), (hR.2.2.1 r (by omega) (by omega)).2]
  by_cases q : isE s p r
  · rw [if_pos (he.mpr q)]; exact (isGap_e q).symm
  · rw [if_neg (fun z => q (he.mp z)), show cOf bc bk r = bc r from if_pos h, hR.2.2.2 r h.1 h.2]; exact (isGap_x q).symm
theorem gaps_eq (hR : HolR s p hm os nb jd jp jk bd bp bk bc) (hk : OkP s p) : sumI (fun r => bI (gapC bp bc bk r)) bk.toNat = gapsOf s p := by
  unfold gapsOf
  rw [← hR.1.2.2.2.2]
  exact sumI_c fun i hi => bI_e (gap_iff hR (by omega))
end
/-! THE WHOLE OBJECT: five blocks change places (the last of 'ad' is 'before'); 'now' and 'snapshot' stay -/
def blkA (o a : Nat) : Prop := a = o + 63 ∨ a = o + 188 ∨ a = o + 250 ∨ a = o + 312 ∨ a = o + 374
def XO (o : Nat) (kn : Int) (b : Nat) (kp cn ce : Int) : va_E := .inr (6, [.ref (o + 1), .ref (o + 187), .int (iI kn), .ref b, .ref (o + 125), .int (iI kp), .ref (o + 436), .int (iI cn), .int (iI ce)])
/-- the blocks, when 'now' tells s and 'before' tells sb -/
def XB (E : Ev) (M : Mem) (w n o : Nat) (s sb : Int → Int) (H : Int → Int → Int) (kn : Int) (sp : Int → Int) (kp : Int) (ad : Int → Nat) : Prop :=
  (∀ i, 0 ≤ i → i < 5 → blkA o (ad i)) ∧ (∀ i j, 0 ≤ i → i < 5 → 0 ≤ j → j < 5 → i ≠ j → ad i ≠ ad j) ∧ SR E M w n (o + 1) s ∧ SR E M w n (ad 4) sb ∧ (∃ s1, SR E M w n (o + 125) s1 ∧ (kp ≠ 0 → s1 = sp)) ∧ ∀ i, 0 ≤ i → i < 4 → ∃ s1, SR E M w n (ad i) s1 ∧ (i < kn → s1 = H i)
/-- the rest of the object -/
def XD (E : Ev) (M : Mem) (w n o : Nat) (kn kp : Int) (tx : Int → Int) (ln st se : Int) (ad : Int → Nat) (hr : Int → Option Nat) (cn ce th nx ki pa co fo fr un da : Int) : Prop :=
  M o = XO o kn (ad 4) kp cn ce ∧ M (o + 187) = ra E 3 4 hr ∧ (∀ i, 0 ≤ i → i < 4 → hr i = some (ad i)) ∧ Bk M (o + 436) 2 (xtC E (o + 436) tx ln th nx ki pa co fo fr un da) ∧ txB tx ln ∧ (0 ≤ kn ∧ kn ≤ 4) ∧ (kp = 0 ∨ kp = 1) ∧ ((ce = 0 ∧ se = -5 ∧ st = -5) ∨ (ce ≠ 0 ∧ ce = se ∧ cn = st)) ∧ (o + 438 ≤ w ∧ w ≤ n) ∧ rg cn ∧ rg ce
def XP (E : Ev) (M : Mem) (w n o : Nat) (A : AS) (s sb : Int → Int) : Prop := ∃ (ad : Int → Nat) (hr : Int → Option Nat) (cn ce th nx ki pa co fo fr un da : Int), XB E M w n o s sb A.2.1 A.2.2.1 A.2.2.2.1 A.2.2.2.2.1 ad ∧ XD E M w n o A.2.2.1 A.2.2.2.2.1 A.2.2.2.2.2.1 A.2.2.2.2.2.2.1 A.2.2.2.2.2.2.2.1 A.2.2.2.2.2.2.2.2 ad hr cn ce th nx ki pa co fo fr un da
/-- the object tells A -/
def XR (E : Ev) (M : Mem) (w n o : Nat) (A : AS) : Prop := ∃ sb, XP E M w n o A A.1 sb
