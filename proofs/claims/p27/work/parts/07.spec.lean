/-! WHAT A STATE IS, as numbers: one row of 622, as the reference lays it; passport p's numbers begin at 103 p. What the document's words mean of it. -/
def sumI (f : Int → Int) : Nat → Int
  | 0 => 0
  | k + 1 => sumI f k + f k
theorem sumI_s (f : Int → Int) (k : Nat) : sumI f (k + 1) = sumI f k + f k := rfl
theorem sumI_c {f h : Int → Int} : ∀ {k : Nat}, (∀ i : Nat, i < k → f i = h i) → sumI f k = sumI h k
  | 0, _ => rfl
  | k + 1, hh => by rw [sumI_s, sumI_s, sumI_c (fun i hi => hh i (by omega)), hh k (by omega)]
theorem sumI_le {f : Int → Int} (h : ∀ i, 0 ≤ f i ∧ f i ≤ 1) : ∀ k : Nat, 0 ≤ sumI f k ∧ sumI f k ≤ k
  | 0 => by simp [sumI]
  | k + 1 => by have := sumI_le h k; have := h k; rw [sumI_s]; omega
abbrev rg (z : Int) : Prop := -2147483648 ≤ z ∧ z < 2147483648
def stD (s : Int → Int) (p r : Int) : Int := s (103 * p + (9 + r)) / 12
def stC (s : Int → Int) (p r : Int) : Int := s (103 * p + (9 + r)) / 2 % 6
abbrev isE (s : Int → Int) (p r : Int) : Prop := s (103 * p + (9 + r)) % 2 = 1
/-- where a book's first k stamps tell the holder (-5: nowhere) -/
def bP (s : Int → Int) (p k : Int) : Int := if k = 0 then s (103 * p + 6) else if s (103 * p + (9 + (k - 1))) % 2 = 1 then stC s p (k - 1) else -5
def bD (s : Int → Int) (p k : Int) : Int := if k = 0 then s (103 * p + 7) else stD s p (k - 1)
def jP (s : Int → Int) (p k : Int) : Int := if k = 0 then s (103 * p + 0) else s (103 * p + (43 + (k - 1))) % 6
def jD (s : Int → Int) (p k : Int) : Int := if k = 0 then s (103 * p + 1) else s (103 * p + (43 + (k - 1))) / 6
abbrev isGap (s : Int → Int) (p r : Int) : Prop := (isE s p r ∧ bP s p r ≠ -5) ∨ (¬ isE s p r ∧ bP s p r ≠ stC s p r)
theorem isGap_e {s : Int → Int} {p r : Int} (h : isE s p r) : isGap s p r ↔ bP s p r ≠ -5 := ⟨fun q => q.elim (fun q => q.2) (fun q => absurd h q.1), fun q => Or.inl ⟨h, q⟩⟩
theorem isGap_x {s : Int → Int} {p r : Int} (h : ¬ isE s p r) : isGap s p r ↔ bP s p r ≠ stC s p r := ⟨fun q => q.elim (fun q => absurd q.1 h) (fun q => q.2), fun q => Or.inr ⟨h, q⟩⟩
def gapsOf (s : Int → Int) (p : Int) : Int := sumI (fun r => bI (isGap s p r)) (s (103 * p + 8)).toNat
/-- how many of the steps behind the first i are not after a day -/
def lead (D : Int → Int) (day : Int) : Nat → Int → Int
  | 0, i => i
  | f + 1, i => if D (i + 1) ≤ day then lead D day f (i + 1) else i
def trAt (D P : Int → Int) (K day : Int) : Int := if day < D 0 then -5 else P (lead D day K.toNat 0)
def daysOn (D P : Int → Int) (K c a : Int) (len : Nat) : Int := sumI (fun i => bI (trAt D P K (a + i) = c)) len
def toldDays (s : Int → Int) (p c a u day : Int) : Int := daysOn (bD s p) (bP s p) (s (103 * p + 8)) c a (min (u + 1) day - a).toNat
def realDays (s : Int → Int) (p c a u day : Int) : Int := daysOn (jD s p) (jP s p) (s (103 * p + 3)) c a (min (u + 1) day - a).toNat
abbrev vOf (s : Int → Int) (p c k : Int) : Int := s (103 * p + (25 + 3 * c + k))
abbrev hasV (s : Int → Int) (p c : Int) : Prop := 0 < vOf s p c 2
abbrev validOn (s : Int → Int) (p c day : Int) : Prop := 0 < vOf s p c 2 ∧ (vOf s p c 0 ≤ day ∧ day ≤ vOf s p c 1)
def usedOn (s : Int → Int) (p c day : Int) : Int := toldDays s p c (vOf s p c 0) (vOf s p c 1) day
/-- he may enter the country, or be in it as a day ends -/
abbrev mayBe (s : Int → Int) (p c day : Int) : Prop := s (103 * p + 0) = c ∨ (validOn s p c day ∧ usedOn s p c day < vOf s p c 2)
def bitOf (a b : Int) : Int := 5 * min a b + max a b - min a b * (min a b + 1) / 2 - 1
abbrev isOpen (s : Int → Int) (a b : Int) : Prop := (s 620).toNat.testBit (bitOf a b).toNat = false
def hindr (s : Int → Int) (p c k : Int) : Int := if s (103 * p + 2) = c then 1 else if ¬ isOpen s (s (103 * p + 2)) c then 2 else if s (103 * p + 0) ≠ c ∧ ¬ validOn s p c (s 618) then 3 else if ¬ mayBe s p c (s 618) then 4 else if 16 < s (103 * p + 8) + k then 5 else if s (103 * p + 3) = 60 then 6 else 0
section
variable {s : Int → Int} {p c k : Int}
theorem hindr_1 (h : s (103 * p + 2) = c) : hindr s p c k = 1 := by rw [hindr, if_pos h]
theorem hindr_2 (h1 : ¬ s (103 * p + 2) = c) (h2 : ¬ isOpen s (s (103 * p + 2)) c) : hindr s p c k = 2 := by rw [hindr, if_neg h1, if_pos h2]
theorem hindr_3 (h1 : ¬ s (103 * p + 2) = c) (h2 : isOpen s (s (103 * p + 2)) c) (h3 : ¬ s (103 * p + 0) = c) (h4 : ¬ validOn s p c (s 618)) : hindr s p c k = 3 := by rw [hindr, if_neg h1, if_neg (fun h => h h2), if_pos ⟨h3, h4⟩]
theorem hindr_4 (h1 : ¬ s (103 * p + 2) = c) (h2 : isOpen s (s (103 * p + 2)) c) (h3 : s (103 * p + 0) = c ∨ validOn s p c (s 618)) (h4 : ¬ mayBe s p c (s 618)) : hindr s p c k = 4 := by rw [hindr, if_neg h1, if_neg (fun h => h h2), if_neg (fun h => h3.elim h.1 h.2), if_pos h4]
theorem hindr_5 (h1 : ¬ s (103 * p + 2) = c) (h2 : isOpen s (s (103 * p + 2)) c) (h3 : s (103 * p + 0) = c ∨ validOn s p c (s 618)) (h4 : mayBe s p c (s 618)) (h5 : 16 < s (103 * p + 8) + k) : hindr s p c k = 5 := by rw [hindr, if_neg h1, if_neg (fun h => h h2), if_neg (fun h => h3.elim h.1 h.2), if_neg (fun h => h h4), if_pos h5]
theorem hindr_6 (h1 : ¬ s (103 * p + 2) = c) (h2 : isOpen s (s (103 * p + 2)) c) (h3 : s (103 * p + 0) = c ∨ validOn s p c (s 618)) (h4 : mayBe s p c (s 618)) (h5 : ¬ 16 < s (103 * p + 8) + k) (h6 : s (103 * p + 3) = 60) : hindr s p c k = 6 := by rw [hindr, if_neg h1, if_neg (fun h => h h2), if_neg (fun h => h3.elim h.1 h.2), if_neg (fun h => h h4), if_neg h5, if_pos h6]
theorem hindr_0 (h1 : ¬ s (103 * p + 2) = c) (h2 : isOpen s (s (103 * p + 2)) c) (h3 : s (103 * p + 0) = c ∨ validOn s p c (s 618)) (h4 : mayBe s p c (s 618)) (h5 : ¬ 16 < s (103 * p + 8) + k) (h6 : ¬ s (103 * p + 3) = 60) : hindr s p c k = 0 := by rw [hindr, if_neg h1, if_neg (fun h => h h2), if_neg (fun h => h3.elim h.1 h.2), if_neg (fun h => h h4), if_neg h5, if_neg h6]
end
/-- what holds of a passport's numbers -/
def OkP (s : Int → Int) (p : Int) : Prop :=
  (0 ≤ s (103 * p + 0) ∧ s (103 * p + 0) ≤ 5) ∧ (0 ≤ s (103 * p + 1) ∧ s (103 * p + 1) ≤ s (103 * p + 7)) ∧ (0 ≤ s (103 * p + 2) ∧ s (103 * p + 2) ≤ 5) ∧ (0 ≤ s (103 * p + 3) ∧ s (103 * p + 3) ≤ 60) ∧ (0 ≤ s (103 * p + 6) ∧ s (103 * p + 6) ≤ 5) ∧ (0 ≤ s (103 * p + 7) ∧ s (103 * p + 7) ≤ s 618 ∧ s 618 ≤ 999) ∧ (0 ≤ s (103 * p + 8) ∧ s (103 * p + 8) ≤ 16) ∧
  (∀ r, 0 ≤ r → r < s (103 * p + 8) → 0 ≤ s (103 * p + (9 + r)) ∧ s (103 * p + (9 + r)) < 12000) ∧
  (∀ r, 0 ≤ r → r < s (103 * p + 8) → bD s p r ≤ bD s p (r + 1) ∧ bD s p (r + 1) ≤ s 618) ∧
  (∀ c, 0 ≤ c → c < 6 → (0 ≤ vOf s p c 0 ∧ vOf s p c 0 ≤ 999) ∧ (0 ≤ vOf s p c 1 ∧ vOf s p c 1 ≤ 999) ∧ (0 ≤ vOf s p c 2 ∧ vOf s p c 2 ≤ 99)) ∧
  (∀ k, 0 ≤ k → k < s (103 * p + 3) → 0 ≤ s (103 * p + (43 + k)) ∧ s (103 * p + (43 + k)) < 6000) ∧
  (∀ k, 0 ≤ k → k < s (103 * p + 3) → jD s p k ≤ jD s p (k + 1) ∧ jD s p (k + 1) ≤ s 618) ∧
  s (103 * p + 2) = jP s p (s (103 * p + 3))
def Ok (s : Int → Int) : Prop := (0 ≤ s 618 ∧ s 618 ≤ 999) ∧ (0 ≤ s 619 ∧ s 619 ≤ 6) ∧ (0 ≤ s 620 ∧ s 620 < 32768) ∧ ∀ p, 0 ≤ p → p < s 619 → OkP s p
section
variable {s : Int → Int} {p : Int}
theorem OkP.home (h : OkP s p) : 0 ≤ s (103 * p + 0) ∧ s (103 * p + 0) ≤ 5 := h.1
theorem OkP.iss (h : OkP s p) : 0 ≤ s (103 * p + 1) ∧ s (103 * p + 1) ≤ s (103 * p + 7) := h.2.1
theorem OkP.whr (h : OkP s p) : 0 ≤ s (103 * p + 2) ∧ s (103 * p + 2) ≤ 5 := h.2.2.1
theorem OkP.crs (h : OkP s p) : 0 ≤ s (103 * p + 3) ∧ s (103 * p + 3) ≤ 60 := h.2.2.2.1
theorem OkP.bgn (h : OkP s p) : 0 ≤ s (103 * p + 6) ∧ s (103 * p + 6) ≤ 5 := h.2.2.2.2.1
theorem OkP.bgo (h : OkP s p) : 0 ≤ s (103 * p + 7) ∧ s (103 * p + 7) ≤ s 618 ∧ s 618 ≤ 999 := h.2.2.2.2.2.1
theorem OkP.stm (h : OkP s p) : 0 ≤ s (103 * p + 8) ∧ s (103 * p + 8) ≤ 16 := h.2.2.2.2.2.2.1
theorem OkP.st (h : OkP s p) {r : Int} (h0 : 0 ≤ r) (h1 : r < s (103 * p + 8)) : 0 ≤ s (103 * p + (9 + r)) ∧ s (103 * p + (9 + r)) < 12000 := h.2.2.2.2.2.2.2.1 r h0 h1
theorem OkP.bd (h : OkP s p) {r : Int} (h0 : 0 ≤ r) (h1 : r < s (103 * p + 8)) : bD s p r ≤ bD s p (r + 1) ∧ bD s p (r + 1) ≤ s 618 := h.2.2.2.2.2.2.2.2.1 r h0 h1
theorem OkP.vis (h : OkP s p) {c : Int} (h0 : 0 ≤ c) (h1 : c < 6) : (0 ≤ vOf s p c 0 ∧ vOf s p c 0 ≤ 999) ∧ (0 ≤ vOf s p c 1 ∧ vOf s p c 1 ≤ 999) ∧ (0 ≤ vOf s p c 2 ∧ vOf s p c 2 ≤ 99) := h.2.2.2.2.2.2.2.2.2.1 c h0 h1
theorem OkP.cr (h : OkP s p) {k : Int} (h0 : 0 ≤ k) (h1 : k < s (103 * p + 3)) : 0 ≤ s (103 * p + (43 + k)) ∧ s (103 * p + (43 + k)) < 6000 := h.2.2.2.2.2.2.2.2.2.2.1 k h0 h1
theorem OkP.jd (h : OkP s p) {k : Int} (h0 : 0 ≤ k) (h1 : k < s (103 * p + 3)) : jD s p k ≤ jD s p (k + 1) ∧ jD s p (k + 1) ≤ s 618 := h.2.2.2.2.2.2.2.2.2.2.2.1 k h0 h1
theorem OkP.here (h : OkP s p) : s (103 * p + 2) = jP s p (s (103 * p + 3)) := h.2.2.2.2.2.2.2.2.2.2.2.2
theorem Ok.day (h : Ok s) : 0 ≤ s 618 ∧ s 618 ≤ 999 := h.1
theorem Ok.many (h : Ok s) : 0 ≤ s 619 ∧ s 619 ≤ 6 := h.2.1
theorem Ok.clo (h : Ok s) : 0 ≤ s 620 ∧ s 620 < 32768 := h.2.2.1
theorem Ok.at (h : Ok s) (h0 : 0 ≤ p) (h1 : p < s 619) : OkP s p := h.2.2.2 p h0 h1
theorem stC_b (s : Int → Int) (p r : Int) : 0 ≤ stC s p r ∧ stC s p r ≤ 5 := by unfold stC; omega
theorem bP_b (h : OkP s p) (k : Int) : -5 ≤ bP s p k ∧ bP s p k ≤ 5 := by
  have := h.bgn
  have := stC_b s p (k - 1)
  unfold bP
  split
  · omega
  · split <;> omega
theorem jP_b (h : OkP s p) (k : Int) : 0 ≤ jP s p k ∧ jP s p k ≤ 5 := by
  have := h.home
  unfold jP
  split <;> omega
theorem lead_b (D : Int → Int) (day : Int) : ∀ (f : Nat) (i : Int), i ≤ lead D day f i ∧ lead D day f i ≤ i + f
  | 0, i => by simp [lead]
  | f + 1, i => by
    unfold lead
    split
    · have := lead_b D day f (i + 1); omega
    · omega
theorem daysOn_b (D P : Int → Int) (K c a : Int) (len : Nat) : 0 ≤ daysOn D P K c a len ∧ daysOn D P K c a len ≤ len := sumI_le (fun i => bI_b _) len
theorem trAt_b {D P : Int → Int} (h : ∀ k, -5 ≤ P k ∧ P k ≤ 5) (K day : Int) : -5 ≤ trAt D P K day ∧ trAt D P K day ≤ 5 := by
  unfold trAt
  split
  · omega
  · exact h _
theorem usedOn_b2 (h : OkP s p) {c : Int} (h0 : 0 ≤ c) (h1 : c < 6) (day : Int) : 0 ≤ usedOn s p c day ∧ usedOn s p c day ≤ 1000 := by
  have a := h.vis h0 h1
  have b := daysOn_b (bD s p) (bP s p) (s (103 * p + 8)) c (vOf s p c 0) (min (vOf s p c 1 + 1) day - vOf s p c 0).toNat
  have e : usedOn s p c day = daysOn (bD s p) (bP s p) (s (103 * p + 8)) c (vOf s p c 0) (min (vOf s p c 1 + 1) day - vOf s p c 0).toNat := rfl
  omega
theorem bitOf_b {a b : Int} (ha : 0 ≤ a ∧ a ≤ 5) (hb : 0 ≤ b ∧ b ≤ 5) (hn : a ≠ b) : 0 ≤ bitOf a b ∧ bitOf a b < 15 := by
  obtain ⟨x, rfl⟩ : ∃ x : Nat, a = x := ⟨a.toNat, by omega⟩
  obtain ⟨y, rfl⟩ : ∃ y : Nat, b = y := ⟨b.toNat, by omega⟩
  exact (show ∀ x : Nat, x < 6 → ∀ y : Nat, y < 6 → (x : Int) ≠ y → 0 ≤ bitOf x y ∧ bitOf x y < 15 by decide +kernel) x (by omega) y (by omega) hn
theorem sq_b {a : Int} (h : 0 ≤ a ∧ a ≤ 5) : 0 ≤ a * (a + 1) ∧ a * (a + 1) < 2147483648 := by
  have : a = 0 ∨ a = 1 ∨ a = 2 ∨ a = 3 ∨ a = 4 ∨ a = 5 := by omega
  rcases this with rfl | rfl | rfl | rfl | rfl | rfl <;> decide
theorem usedOn_b (s : Int → Int) (p c day : Int) : 0 ≤ usedOn s p c day := (daysOn_b _ _ _ _ _ _).1
end
/-- the reference's object, and its state's row -/
def MS (E : Ev) (M : Mem) (m : Nat) (s : Int → Int) : Prop := (∃ r : List Value, M m = .inr (7, .ref (m + 1) :: r)) ∧ M (m + 1) = ia E 622 s
/-! bits (rows of the kit's laws NUMBERS and COUNTS, pasted), and masks as whole numbers -/
theorem fa_and (a b : Nat) : nI a &&& nI b = nI (a &&& b) := by
  apply Int32.toBitVec_inj.1
  show BitVec.ofNat 32 a &&& BitVec.ofNat 32 b = BitVec.ofNat 32 (a &&& b)
  apply BitVec.eq_of_getLsbD_eq
  intro i hi
  simp [hi]
theorem fa_or (a b : Nat) : nI a ||| nI b = nI (a ||| b) := by
  apply Int32.toBitVec_inj.1
  show BitVec.ofNat 32 a ||| BitVec.ofNat 32 b = BitVec.ofNat 32 (a ||| b)
  apply BitVec.eq_of_getLsbD_eq
  intro i hi
  simp [hi]
theorem fb_xorI (a b : Nat) : nI a ^^^ nI b = nI (a ^^^ b) := by
  apply Int32.toBitVec_inj.1
  show BitVec.ofNat 32 a ^^^ BitVec.ofNat 32 b = BitVec.ofNat 32 (a ^^^ b)
  apply BitVec.eq_of_getLsbD_eq
  intro i hi
  simp [hi]
theorem fb_bit_nat (n j : Nat) : n &&& 2 ^ j = 0 ↔ n.testBit j = false := by
  constructor
  · intro h
    have h1 : (n &&& 2 ^ j).testBit j = false := by rw [h]; simp
    rw [Nat.testBit_and] at h1
    simpa using h1
  · intro h
    apply Nat.eq_of_testBit_eq
    intro i
    rw [Nat.testBit_and]
    by_cases hi : j = i
    · subst hi; simp [h]
    · first | (simp [Nat.testBit_two_pow, hi]; done) | (simp [Nat.testBit_two_pow_of_ne hi]; done)
theorem fb_bit_set (n j i : Nat) : (n ||| 2 ^ j).testBit i = (n.testBit i || decide (i = j)) := by
  rw [Nat.testBit_or]
  by_cases h : j = i
  · subst h; simp
  · have h2 : ¬ i = j := fun e => h e.symm
    first | (simp [Nat.testBit_two_pow, h, h2]; done) | (simp [Nat.testBit_two_pow_of_ne h, h2]; done)
theorem fb_bit_flip (n j i : Nat) : (n ^^^ 2 ^ j).testBit i = (n.testBit i ^^ decide (i = j)) := by
  rw [Nat.testBit_xor]
  by_cases h : j = i
  · subst h; simp
  · have h2 : ¬ i = j := fun e => h e.symm
    first | (simp [Nat.testBit_two_pow, h, h2]; done) | (simp [Nat.testBit_two_pow_of_ne h, h2]; done)
theorem shl1 : ∀ k, k < 31 → nI 1 <<< (nI k &&& 31) = nI (2 ^ k) := by decide +kernel
theorem iI_shl1 {z : Int} (h : 0 ≤ z ∧ z < 31) : iI 1 <<< (iI z &&& 31) = iI ((2 ^ z.toNat : Nat) : Int) := by
  rw [iI_toN h.1, iI_nat]; exact shl1 z.toNat (by omega)
theorem iI_shl1e {x z : Int} (e : x = z) (h : 0 ≤ z ∧ z < 31) : iI 1 <<< (iI x &&& 31) = iI ((2 ^ z.toNat : Nat) : Int) := by rw [e]; exact iI_shl1 h
theorem iI_and {a b : Nat} : iI (a : Int) &&& iI (b : Int) = iI ((a &&& b : Nat) : Int) := by simp only [iI_nat]; exact fa_and a b
theorem iI_or {a b : Nat} : iI (a : Int) ||| iI (b : Int) = iI ((a ||| b : Nat) : Int) := by simp only [iI_nat]; exact fa_or a b
theorem iI_xor {a b : Nat} : iI (a : Int) ^^^ iI (b : Int) = iI ((a ^^^ b : Nat) : Int) := by simp only [iI_nat]; exact fb_xorI a b
theorem iI_andz {a : Int} {b : Nat} (h : 0 ≤ a) : iI a &&& iI (b : Int) = iI ((a.toNat &&& b : Nat) : Int) := by
  rw [show iI a = iI ((a.toNat : Nat) : Int) by rw [Int.toNat_of_nonneg h]]; exact iI_and
theorem iI_xorz {a : Int} {b : Nat} (h : 0 ≤ a) : iI a ^^^ iI (b : Int) = iI ((a.toNat ^^^ b : Nat) : Int) := by
  rw [show iI a = iI ((a.toNat : Nat) : Int) by rw [Int.toNat_of_nonneg h]]; exact iI_xor
theorem shr_k : ∀ k, k < 31 → ((nI k &&& 31).toBitVec.smod 32).toNat = k := by decide +kernel
theorem iI_shr {a : Nat} {z : Int} (ha : a < 2147483648) (h : 0 ≤ z ∧ z < 31) : iI (a : Int) >>> (iI z &&& 31) = iI ((a / 2 ^ z.toNat : Nat) : Int) := by
  rw [iI_toN h.1, iI_nat, iI_nat, pk_shrN ha _ z.toNat (shr_k z.toNat (by omega))]
theorem shr1 (n k : Nat) : n / 2 ^ k &&& 1 = if n.testBit k = true then 1 else 0 := by
  rw [Nat.and_one_is_mod, Nat.testBit_eq_decide_div_mod_eq]
  by_cases h : n / 2 ^ k % 2 = 1
  · simp [h]
  · simp [h]; omega
