/-! A BOOK: its object, its trail, its countries -/
def boC (E : Ev) (b : Nat) (bd bp : Int → Int) (bk : Int) (bc : Int → Int) : Nat → va_E
  | 0 => .inr (0, [.ref (b + 1), .ref (b + 4)])
  | 1 => trC E (b + 1) 17 bd bp bk 0
  | 2 => trC E (b + 1) 17 bd bp bk 1
  | 3 => trC E (b + 1) 17 bd bp bk 2
  | _ => ia E 16 bc
abbrev BoM (E : Ev) (M : Mem) (b : Nat) (bd bp : Int → Int) (bk : Int) (bc : Int → Int) : Prop := Bk M b 5 (boC E b bd bp bk bc)
def boU (E : Ev) (M : Mem) (b : Nat) (bd bp : Int → Int) (bk : Int) (bc : Int → Int) : Mem := ov M b 5 (boC E b bd bp bk bc)
theorem j5 {j : Nat} (h : j < 5) : j = 0 ∨ j = 1 ∨ j = 2 ∨ j = 3 ∨ j = 4 := by omega
section
variable {E : Ev} {M : Mem} {b : Nat} {bd bp bc bd' bp' bc' : Int → Int} {bk bk' : Int}
theorem BoM.h0 (h : BoM E M b bd bp bk bc) : M b = .inr (0, [.ref (b + 1), .ref (b + 4)]) := h 0 (by omega)
theorem BoM.h4 (h : BoM E M b bd bp bk bc) : M (b + 4) = ia E 16 bc := h 4 (by omega)
theorem BoM.tr (h : BoM E M b bd bp bk bc) : TrM E M (b + 1) 17 bd bp bk := Bk.sub h (by omega) (fun j hj => by rcases j3 hj with rfl | rfl | rfl <;> rfl)
theorem BoM.h1 (h : BoM E M b bd bp bk bc) : M (b + 1) = .inr (4, [.ref (b + 1 + 1), .ref (b + 1 + 2), .int (iI bk)]) := h.tr.h0
theorem bo_M : BoM E (boU E M b bd bp bk bc) b bd bp bk bc := ov_Bk
theorem bo_id (h : BoM E M b bd bp bk bc) : boU E M b bd bp bk bc = M := ov_id h
theorem bo_ut : trU E (boU E M b bd bp bk bc) (b + 1) 17 bd' bp' bk' = boU E M b bd' bp' bk' bc := ov_sub (by omega) (fun j hj => by rcases j3 hj with rfl | rfl | rfl <;> rfl) (fun j hj hn => by rcases j5 hj with rfl | rfl | rfl | rfl | rfl <;> first | rfl | exact absurd ⟨by omega, by omega⟩ hn)
theorem bo_u4 : va_up (boU E M b bd bp bk bc) (b + 4) (ia E 16 bc') = boU E M b bd bp bk bc' := ov_up (k := 4) (by omega) rfl (fun j hj hn => by rcases j5 hj with rfl | rfl | rfl | rfl | rfl <;> first | rfl | exact absurd rfl hn)
end
def cOf (bc : Int → Int) (bk r : Int) : Int := if 0 ≤ r ∧ r < bk then bc r else -5
abbrev entC (bp : Int → Int) (bk r : Int) : Prop := aft bp bk (r + 1) ≠ -5
def dueC (bp bc : Int → Int) (bk r : Int) : Int := if entC bp bk r then -5 else cOf bc bk r
abbrev gapC (bp bc : Int → Int) (bk r : Int) : Prop := aft bp bk r ≠ dueC bp bc bk r
abbrev BoOk (bd bp : Int → Int) (bk : Int) (bc : Int → Int) : Prop := TrOk 17 bd bp bk ∧ ∀ r, 0 ≤ r → r < bk → 0 ≤ bc r ∧ bc r ≤ 5
theorem aft_b {N : Nat} {dy pl : Int → Int} {k i : Int} (h : TrOk N dy pl k) : -5 ≤ aft pl k i ∧ aft pl k i ≤ 5 := by
  unfold aft
  split
  · next q => exact (h.2 i q.1 q.2).2
  · omega
theorem cOf_b {bd bp bc : Int → Int} {bk r : Int} (h : BoOk bd bp bk bc) : -5 ≤ cOf bc bk r ∧ cOf bc bk r ≤ 5 := by
  unfold cOf
  split
  · next q => have := h.2 r q.1 q.2; omega
  · omega
/-! A HOLDER: its object, its journey, its book, its visas -/
def HO (h : Nat) (hm os nb : Int) : va_E := .inr (1, [.int (iI hm), .int (iI os), .int (iI nb), .ref (h + 1), .ref (h + 4), .ref (h + 9)])
def hoC (E : Ev) (h : Nat) (hm os nb : Int) (jd jp : Int → Int) (jk : Int) (bd bp : Int → Int) (bk : Int) (bc : Int → Int) (vs : Int → Option Nat) : Nat → va_E
  | 0 => HO h hm os nb
  | 1 => trC E (h + 1) 61 jd jp jk 0
  | 2 => trC E (h + 1) 61 jd jp jk 1
  | 3 => trC E (h + 1) 61 jd jp jk 2
  | 4 => boC E (h + 4) bd bp bk bc 0
  | 5 => boC E (h + 4) bd bp bk bc 1
  | 6 => boC E (h + 4) bd bp bk bc 2
  | 7 => boC E (h + 4) bd bp bk bc 3
  | 8 => boC E (h + 4) bd bp bk bc 4
  | _ => ra E 4 6 vs
abbrev HoM (E : Ev) (M : Mem) (h : Nat) (hm os nb : Int) (jd jp : Int → Int) (jk : Int) (bd bp : Int → Int) (bk : Int) (bc : Int → Int) (vs : Int → Option Nat) : Prop := Bk M h 10 (hoC E h hm os nb jd jp jk bd bp bk bc vs)
def hoU (E : Ev) (M : Mem) (h : Nat) (hm os nb : Int) (jd jp : Int → Int) (jk : Int) (bd bp : Int → Int) (bk : Int) (bc : Int → Int) (vs : Int → Option Nat) : Mem := ov M h 10 (hoC E h hm os nb jd jp jk bd bp bk bc vs)
theorem j10 {j : Nat} (h : j < 10) : j = 0 ∨ j = 1 ∨ j = 2 ∨ j = 3 ∨ j = 4 ∨ j = 5 ∨ j = 6 ∨ j = 7 ∨ j = 8 ∨ j = 9 := by omega
section
variable {E : Ev} {M : Mem} {h : Nat} {hm os nb hm' os' nb' : Int} {jd jp bd bp bc jd' jp' bd' bp' bc' : Int → Int} {jk bk jk' bk' : Int} {vs vs' : Int → Option Nat}
theorem HoM.h0 (q : HoM E M h hm os nb jd jp jk bd bp bk bc vs) : M h = .inr (1, [.int (iI hm), .int (iI os), .int (iI nb), .ref (h + 1), .ref (h + 4), .ref (h + 9)]) := q 0 (by omega)
theorem HoM.h9 (q : HoM E M h hm os nb jd jp jk bd bp bk bc vs) : M (h + 9) = ra E 4 6 vs := q 9 (by omega)
theorem HoM.tr (q : HoM E M h hm os nb jd jp jk bd bp bk bc vs) : TrM E M (h + 1) 61 jd jp jk := Bk.sub q (by omega) (fun j hj => by rcases j3 hj with rfl | rfl | rfl <;> rfl)
theorem HoM.bo (q : HoM E M h hm os nb jd jp jk bd bp bk bc vs) : BoM E M (h + 4) bd bp bk bc := Bk.sub q (by omega) (fun j hj => by rcases j5 hj with rfl | rfl | rfl | rfl | rfl <;> rfl)
theorem HoM.h1 (q : HoM E M h hm os nb jd jp jk bd bp bk bc vs) : M (h + 1) = .inr (4, [.ref (h + 1 + 1), .ref (h + 1 + 2), .int (iI jk)]) := q.tr.h0
theorem HoM.h4 (q : HoM E M h hm os nb jd jp jk bd bp bk bc vs) : M (h + 4) = .inr (0, [.ref (h + 4 + 1), .ref (h + 4 + 4)]) := q.bo.h0
theorem HoM.h5 (q : HoM E M h hm os nb jd jp jk bd bp bk bc vs) : M (h + 4 + 1) = .inr (4, [.ref (h + 4 + 1 + 1), .ref (h + 4 + 1 + 2), .int (iI bk)]) := q.bo.h1
theorem ho_M : HoM E (hoU E M h hm os nb jd jp jk bd bp bk bc vs) h hm os nb jd jp jk bd bp bk bc vs := ov_Bk
theorem ho_id (q : HoM E M h hm os nb jd jp jk bd bp bk bc vs) : hoU E M h hm os nb jd jp jk bd bp bk bc vs = M := ov_id q
theorem ho_u0 : va_up (hoU E M h hm os nb jd jp jk bd bp bk bc vs) h (.inr (1, [.int (iI hm'), .int (iI os'), .int (iI nb'), .ref (h + 1), .ref (h + 4), .ref (h + 9)])) = hoU E M h hm' os' nb' jd jp jk bd bp bk bc vs := ov_up (k := 0) (by omega) rfl (fun j hj hn => by rcases j10 hj with rfl | rfl | rfl | rfl | rfl | rfl | rfl | rfl | rfl | rfl <;> first | rfl | exact absurd rfl hn)
theorem ho_u9 : va_up (hoU E M h hm os nb jd jp jk bd bp bk bc vs) (h + 9) (ra E 4 6 vs') = hoU E M h hm os nb jd jp jk bd bp bk bc vs' := ov_up (k := 9) (by omega) rfl (fun j hj hn => by rcases j10 hj with rfl | rfl | rfl | rfl | rfl | rfl | rfl | rfl | rfl | rfl <;> first | rfl | exact absurd rfl hn)
theorem ho_uj : trU E (hoU E M h hm os nb jd jp jk bd bp bk bc vs) (h + 1) 61 jd' jp' jk' = hoU E M h hm os nb jd' jp' jk' bd bp bk bc vs := ov_sub (by omega) (fun j hj => by rcases j3 hj with rfl | rfl | rfl <;> rfl) (fun j hj hn => by rcases j10 hj with rfl | rfl | rfl | rfl | rfl | rfl | rfl | rfl | rfl | rfl <;> first | rfl | exact absurd ⟨by omega, by omega⟩ hn)
theorem ho_ub : boU E (hoU E M h hm os nb jd jp jk bd bp bk bc vs) (h + 4) bd' bp' bk' bc' = hoU E M h hm os nb jd jp jk bd' bp' bk' bc' vs := ov_sub (by omega) (fun j hj => by rcases j5 hj with rfl | rfl | rfl | rfl | rfl <;> rfl) (fun j hj hn => by rcases j10 hj with rfl | rfl | rfl | rfl | rfl | rfl | rfl | rfl | rfl | rfl <;> first | rfl | exact absurd ⟨by omega, by omega⟩ hn)
end
/-- how a holder's cells tell a passport's numbers -/
def HolR (s : Int → Int) (p hm os nb : Int) (jd jp : Int → Int) (jk : Int) (bd bp : Int → Int) (bk : Int) (bc : Int → Int) : Prop :=
  (hm = s (103 * p + 0) ∧ os = s (103 * p + 4) ∧ nb = s (103 * p + 5) ∧ jk = s (103 * p + 3) ∧ bk = s (103 * p + 8)) ∧ (∀ i, 0 ≤ i → i ≤ jk → jd i = jD s p i ∧ jp i = jP s p i) ∧ (∀ i, 0 ≤ i → i ≤ bk → bd i = bD s p i ∧ bp i = bP s p i) ∧ (∀ r, 0 ≤ r → r < bk → bc r = stC s p r)
/-- the visas' cells -/
def VisR (M : Mem) (s : Int → Int) (p : Int) (vs : Int → Option Nat) : Prop := ∀ c, 0 ≤ c → c < 6 → (vs c = none ∧ ¬ hasV s p c) ∨ (∃ u, vs c = some u ∧ M u = viC c (vOf s p c 0) (vOf s p c 1) (vOf s p c 2) ∧ hasV s p c)
