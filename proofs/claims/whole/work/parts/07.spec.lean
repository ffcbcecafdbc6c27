/-! WHAT A STATE IS, as numbers: one row of 622, as the reference lays it; passport p's numbers begin at 103 p. What the document's words mean of it. -/
def sumI (f : Int → Int) : Nat → Int
  | 0 => 0
  | k + 1 => sumI f k + f k
theorem sumI_s (f : Int → Int) (k : Nat) : sumI f (k + 1) = sumI f k + f k := rfl
theorem sumI_c {f h : Int → Int} : ∀ {k : Nat}, (∀ i : Nat, i < k → f i = h i) → sumI f k = sumI h k
  | 0, _ => rfl
  | k + 1, hh => by rw [sumI_s, sumI_s, sumI_c (fun i hi => hh i (by omega)), hh k (by omega)]
theorem sumI_le {f : Int → Int} (h : ∀ i, 0 ≤ f i ∧ f i ≤ 1) : ∀ k : Nat, 0 ≤ sumI f k ∧ sumI f k ≤ k
  | 0 => by simp [sumI]
  | k + 1 => by have := sumI_le h k; have := h k; rw [sumI_s]; omega
abbrev rg (z : Int) : Prop := -2147483648 ≤ z ∧ z < 2147483648
def stD (s : Int → Int) (p r : Int) : Int := s (103 * p + (9 + r)) / 12
def stC (s : Int → Int) (p r : Int) : Int := s (103 * p + (9 + r)) / 2 % 6
abbrev isE (s : Int → Int) (p r : Int) : Prop := s (103 * p + (9 + r)) % 2 = 1
/-- where a book's first k stamps tell the holder (-5: nowhere) -/
def bP (s : Int → Int) (p k : Int) : Int := if k = 0 then s (103 * p + 6) else if s (103 * p + (9 + (k - 1))) % 2 = 1 then stC s p (k - 1) else -5
def bD (s : Int → Int) (p k : Int) : Int := if k = 0 then s (103 * p + 7) else stD s p (k - 1)
def jP (s : Int → Int) (p k : Int) : Int := if k = 0 then s (103 * p + 0) else s (103 * p + (43 + (k - 1))) % 6
def jD (s : Int → Int) (p k : Int) : Int := if k = 0 then s (103 * p + 1) else s (103 * p + (43 + (k - 1))) / 6
abbrev isGap (s : Int → Int) (p r : Int) : Prop := (isE s p r ∧ bP s p r ≠ -5) ∨ (¬ isE s p r ∧ bP s p r ≠ stC s p r)
theorem isGap_e {s : Int → Int} {p r : Int} (h : isE s p r) : isGap s p r ↔ bP s p r ≠ -5 := ⟨fun q => q.elim (fun q => q.2) (fun q => absurd h q.1), fun q => Or.inl ⟨h, q⟩⟩
theorem isGap_x {s : Int → Int} {p r : Int} (h : ¬ isE s p r) : isGap s p r ↔ bP s p r ≠ stC s p r := ⟨fun q => q.elim (fun q => absurd q.1 h) (fun q => q.2), fun q => Or.inr ⟨h, q⟩⟩
def gapsOf (s : Int → Int) (p : Int) : Int := sumI (fun r => bI (isGap s p r)) (s (103 * p + 8)).toNat
/-- how many of the steps behind the first i are not after a day -/
def lead (D : Int → Int) (day : Int) : Nat → Int → Int
  | 0, i => i
  | f + 1, i => if D (i + 1) ≤ day then lead D day f (i + 1) else i
def trAt (D P : Int → Int) (K day : Int) : Int := if day < D 0 then -5 else P (lead D day K.toNat 0)
def daysOn (D P : Int → Int) (K c a : Int) (len : Nat) : Int := sumI (fun i => bI (trAt D P K (a + i) = c)) len
def toldDays (s : Int → Int) (p c a u day : Int) : Int := daysOn (bD s p) (bP s p) (s (103 * p + 8)) c a (min (u + 1) day - a).toNat
def realDays (s : Int → Int) (p c a u day : Int) : Int := daysOn (jD s p) (jP s p) (s (103 * p + 3)) c a (min (u + 1) day - a).toNat
abbrev vOf (s : Int → Int) (p c k : Int) : Int := s (103 * p + (25 + 3 * c + k))
abbrev hasV (s : Int → Int) (p c : Int) : Prop := 0 < vOf s p c 2
abbrev validOn (s : Int → Int) (p c day : Int) : Prop := 0 < vOf s p c 2 ∧ (vOf s p c 0 ≤ day ∧ day ≤ vOf s p c 1)
def usedOn (s : Int → Int) (p c day : Int) : Int := toldDays s p c (vOf s p c 0) (vOf s p c 1) day
/-- he may enter the country, or be in it as a day ends -/
abbrev mayBe (s : Int → Int) (p c day : Int) : Prop := s (103 * p + 0) = c ∨ (validOn s p c day ∧ usedOn s p c day < vOf s p c 2)
def bitOf (a b : Int) : Int := 5 * min a b + max a b - min a b * (min a b + 1) / 2 - 1
abbrev isOpen (s : Int → Int) (a b : Int) : Prop := (s 620).toNat.testBit (bitOf a b).toNat = false
def hindr (s : Int → Int) (p c k : Int) : Int := if s (103 * p + 2) = c then 1 else if ¬ isOpen s (s (103 * p + 2)) c then 2 else if s (103 * p + 0) ≠ c ∧ ¬ validOn s p c (s 618) then 3 else if ¬ mayBe s p c (s 618) then 4 else if 16 < s (103 * p + 8) + k then 5 else if s (103 * p + 3) = 60 then 6 else 0
/-- what holds of a passport's numbers -/
def OkP (s : Int → Int) (p : Int) : Prop :=
  (0 ≤ s (103 * p + 0) ∧ s (103 * p + 0) ≤ 5) ∧ (0 ≤ s (103 * p + 1) ∧ s (103 * p + 1) ≤ s (103 * p + 7)) ∧ (0 ≤ s (103 * p + 2) ∧ s (103 * p + 2) ≤ 5) ∧ (0 ≤ s (103 * p + 3) ∧ s (103 * p + 3) ≤ 60) ∧ (0 ≤ s (103 * p + 6) ∧ s (103 * p + 6) ≤ 5) ∧ (0 ≤ s (103 * p + 7) ∧ s (103 * p + 7) ≤ s 618 ∧ s 618 ≤ 999) ∧ (0 ≤ s (103 * p + 8) ∧ s (103 * p + 8) ≤ 16) ∧
  (∀ r, 0 ≤ r → r < s (103 * p + 8) → 0 ≤ s (103 * p + (9 + r)) ∧ s (103 * p + (9 + r)) < 12000) ∧
  (∀ r, 0 ≤ r → r < s (103 * p + 8) → bD s p r ≤ bD s p (r + 1) ∧ bD s p (r + 1) ≤ s 618) ∧
  (∀ c, 0 ≤ c → c < 6 → (0 ≤ vOf s p c 0 ∧ vOf s p c 0 ≤ 999) ∧ (0 ≤ vOf s p c 1 ∧ vOf s p c 1 ≤ 999) ∧ (0 ≤ vOf s p c 2 ∧ vOf s p c 2 ≤ 99)) ∧
  (∀ k, 0 ≤ k → k < s (103 * p + 3) → 0 ≤ s (103 * p + (43 + k)) ∧ s (103 * p + (43 + k)) < 6000) ∧
  (∀ k, 0 ≤ k → k < s (103 * p + 3) → jD s p k ≤ jD s p (k + 1) ∧ jD s p (k + 1) ≤ s 618) ∧
  s (103 * p + 2) = jP s p (s (103 * p + 3))
def Ok (s : Int → Int) : Prop := (0 ≤ s 618 ∧ s 618 ≤ 999) ∧ (0 ≤ s 619 ∧ s 619 ≤ 6) ∧ (0 ≤ s 620 ∧ s 620 < 32768) ∧ ∀ p, 0 ≤ p → p < s 619 → OkP s p
section
variable {s : Int → Int} {p : Int}
theorem OkP.home (h : OkP s p) : 0 ≤ s (103 * p + 0) ∧ s (103 * p + 0) ≤ 5 := h.1
theorem OkP.iss (h : OkP s p) : 0 ≤ s (103 * p + 1) ∧ s (103 * p + 1) ≤ s (103 * p + 7) := h.2.1
theorem OkP.whr (h : OkP s p) : 0 ≤ s (103 * p + 2) ∧ s (103 * p + 2) ≤ 5 := h.2.2.1
theorem OkP.crs (h : OkP s p) : 0 ≤ s (103 * p + 3) ∧ s (103 * p + 3) ≤ 60 := h.2.2.2.1
theorem OkP.bgn (h : OkP s p) : 0 ≤ s (103 * p + 6) ∧ s (103 * p + 6) ≤ 5 := h.2.2.2.2.1
theorem OkP.bgo (h : OkP s p) : 0 ≤ s (103 * p + 7) ∧ s (103 * p + 7) ≤ s 618 ∧ s 618 ≤ 999 := h.2.2.2.2.2.1
theorem OkP.stm (h : OkP s p) : 0 ≤ s (103 * p + 8) ∧ s (103 * p + 8) ≤ 16 := h.2.2.2.2.2.2.1
theorem OkP.st (h : OkP s p) {r : Int} (h0 : 0 ≤ r) (h1 : r < s (103 * p + 8)) : 0 ≤ s (103 * p + (9 + r)) ∧ s (103 * p + (9 + r)) < 12000 := h.2.2.2.2.2.2.2.1 r h0 h1
theorem OkP.bd (h : OkP s p) {r : Int} (h0 : 0 ≤ r) (h1 : r < s (103 * p + 8)) : bD s p r ≤ bD s p (r + 1) ∧ bD s p (r + 1) ≤ s 618 := h.2.2.2.2.2.2.2.2.1 r h0 h1
theorem OkP.vis (h : OkP s p) {c : Int} (h0 : 0 ≤ c) (h1 : c < 6) : (0 ≤ vOf s p c 0 ∧ vOf s p c 0 ≤ 999) ∧ (0 ≤ vOf s p c 1 ∧ vOf s p c 1 ≤ 999) ∧ (0 ≤ vOf s p c 2 ∧ vOf s p c 2 ≤ 99) := h.2.2.2.2.2.2.2.2.2.1 c h0 h1
theorem OkP.cr (h : OkP s p) {k : Int} (h0 : 0 ≤ k) (h1 : k < s (103 * p + 3)) : 0 ≤ s (103 * p + (43 + k)) ∧ s (103 * p + (43 + k)) < 6000 := h.2.2.2.2.2.2.2.2.2.2.1 k h0 h1
theorem OkP.jd (h : OkP s p) {k : Int} (h0 : 0 ≤ k) (h1 : k < s (103 * p + 3)) : jD s p k ≤ jD s p (k + 1) ∧ jD s p (k + 1) ≤ s 618 := h.2.2.2.2.2.2.2.2.2.2.2.1 k h0 h1
theorem OkP.here (h : OkP s p) : s (103 * p + 2) = jP s p (s (103 * p + 3)) := h.2.2.2.2.2.2.2.2.2.2.2.2
theorem Ok.day (h : Ok s) : 0 ≤ s 618 ∧ s 618 ≤ 999 := h.1
theorem Ok.many (h : Ok s) : 0 ≤ s 619 ∧ s 619 ≤ 6 := h.2.1
theorem Ok.clo (h : Ok s) : 0 ≤ s 620 ∧ s 620 < 32768 := h.2.2.1
theorem Ok.at (h : Ok s) (h0 : 0 ≤ p) (h1 : p < s 619) : OkP s p := h.2.2.2 p h0 h1
theorem stC_b (s : Int → Int) (p r : Int) : 0 ≤ stC s p r ∧ stC s p r ≤ 5 := by unfold stC; omega
theorem bP_b (h : OkP s p) (k : Int) : -5 ≤ bP s p k ∧ bP s p k ≤ 5 := by
  have := h.bgn
  have := stC_b s p (k - 1)
  unfold bP
  split
  · omega
  · split <;> omega
theorem jP_b (h : OkP s p) (k : Int) : 0 ≤ jP s p k ∧ jP s p k ≤ 5 := by
  have := h.home
  unfold jP
  split <;> omega
theorem lead_b (D : Int → Int) (day : Int) : ∀ (f : Nat) (i : Int), i ≤ lead D day f i ∧ lead D day f i ≤ i + f
  | 0, i => by simp [lead]
  | f + 1, i => by
    unfold lead
    split
    · have := lead_b D day f (i + 1); omega
    · omega
theorem daysOn_b (D P : Int → Int) (K c a : Int) (len : Nat) : 0 ≤ daysOn D P K c a len ∧ daysOn D P K c a len ≤ len := sumI_le (fun i => bI_b _) len
theorem usedOn_b (s : Int → Int) (p c day : Int) : 0 ≤ usedOn s p c day := (daysOn_b _ _ _ _ _ _).1
end
/-- the reference's object, and its state's row -/
def MS (E : Ev) (M : Mem) (m : Nat) (s : Int → Int) : Prop := (∃ r : List Value, M m = .inr (7, .ref (m + 1) :: r)) ∧ M (m + 1) = ia E 622 s
