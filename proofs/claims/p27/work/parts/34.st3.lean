/-! a holder's book or journey told anew -/
def setB (c : HC) (bd bp : Int → Int) (bk : Int) (bc : Int → Int) : HC := (c.1, c.2.1, c.2.2.1, c.2.2.2.1, c.2.2.2.2.1, hcj c, bd, bp, bk, bc, hcv c)
def setJ (c : HC) (jd jp : Int → Int) (jk : Int) : HC := (c.1, c.2.1, c.2.2.1, jd, jp, jk, c.2.2.2.2.2.2.1, c.2.2.2.2.2.2.2.1, hcb c, c.2.2.2.2.2.2.2.2.2.1, hcv c)
def exC (c : HC) (pl dy : Int) : HC := setB c (upI c.2.2.2.2.2.2.1 (hcb c + 1) dy) (upI c.2.2.2.2.2.2.2.1 (hcb c + 1) (-5)) (hcb c + 1) (upI c.2.2.2.2.2.2.2.2.2.1 (hcb c) pl)
def enC (c : HC) (k dy : Int) : HC := setB c (upI c.2.2.2.2.2.2.1 (hcb c + 1) dy) (upI c.2.2.2.2.2.2.2.1 (hcb c + 1) k) (hcb c + 1) (upI c.2.2.2.2.2.2.2.2.2.1 (hcb c) k)
def joC (c : HC) (k dy : Int) : HC := setJ c (upI c.2.2.2.1 (hcj c + 1) dy) (upI c.2.2.2.2.1 (hcj c + 1) k) (hcj c + 1)
def mvA (c : HC) (pl dy f : Int) : HC := if f % 2 = 0 then exC c pl dy else c
def mvB (c : HC) (pl k dy f : Int) : HC := if f / 2 = 0 then enC (mvA c pl dy f) k dy else mvA c pl dy f
/-- a holder behind a crossing -/
def movC (c : HC) (pl k dy f : Int) : HC := joC (mvB c pl k dy f) k dy
abbrev HbOk (c : HC) : Prop := BoOk c.2.2.2.2.2.2.1 c.2.2.2.2.2.2.2.1 (hcb c) c.2.2.2.2.2.2.2.2.2.1
abbrev HjOk (c : HC) : Prop := TrOk 61 c.2.2.2.1 c.2.2.2.2.1 (hcj c)
theorem BoOk.add {bd bp bc : Int → Int} {bk k p d : Int} (h : BoOk bd bp bk bc) (hk : bk < 16) (hd : 0 ≤ d ∧ d ≤ 999) (hp : -5 ≤ p ∧ p ≤ 5) (hc : 0 ≤ k ∧ k ≤ 5) : BoOk (upI bd (bk + 1) d) (upI bp (bk + 1) p) (bk + 1) (upI bc bk k) := by
  have h1 := h.1.1
  refine ⟨⟨by omega, fun i h0 hi => ?_⟩, fun r h0 hr => ?_⟩
  · unfold upI
    by_cases q : i = bk + 1
    · rw [if_pos q, if_pos q]; omega
    · rw [if_neg q, if_neg q]; exact h.1.2 i h0 (by omega)
  · unfold upI
    by_cases q : r = bk
    · rw [if_pos q]; omega
    · rw [if_neg q]; exact h.2 r h0 (by omega)
theorem exC_ok {c : HC} {pl dy : Int} (h : HbOk c) (hk : hcb c < 16) (hd : 0 ≤ dy ∧ dy ≤ 999) (hp : 0 ≤ pl ∧ pl ≤ 5) : HbOk (exC c pl dy) := BoOk.add h hk hd (by omega) hp
theorem enC_ok {c : HC} {k dy : Int} (h : HbOk c) (hk : hcb c < 16) (hd : 0 ≤ dy ∧ dy ≤ 999) (hp : 0 ≤ k ∧ k ≤ 5) : HbOk (enC c k dy) := BoOk.add h hk hd (by omega) hp
section
variable {E : Ev} {M : Mem} {t i : Nat} {dy iss fg : Int} {cl : Int64} {C : Nat → HC} {c d : HC} {bd' bp' bc' jd' jp' : Int → Int} {bk' jk' : Int}
theorem upC_id : upC C i (C i) = C := by
  funext j; unfold upC; split
  · next h => rw [h]
  · rfl
theorem upC_upC : upC (upC C i c) i d = upC C i d := by
  funext j; unfold upC; split <;> rfl
theorem st_hc (hi : i < 6) : HcM E (stU E M t dy iss fg cl (upC C i c)) (hbs t i) c := by
  have q := (st_M (E := E) (M := M) (t := t) (dy := dy) (iss := iss) (fg := fg) (cl := cl) (C := upC C i c)).ho (i := i) hi
  rwa [upC_s] at q
theorem st_ub (hi : i < 6) : boU E (stU E M t dy iss fg cl (upC C i c)) (hbs t i + 4) bd' bp' bk' bc' = stU E M t dy iss fg cl (upC C i (setB c bd' bp' bk' bc')) := by
  have e := (ho_id (st_hc (E := E) (M := M) (t := t) (dy := dy) (iss := iss) (fg := fg) (cl := cl) (C := C) (c := c) hi)).symm
  have e2 := st_uh (E := E) (M := M) (t := t) (dy := dy) (iss := iss) (fg := fg) (cl := cl) (C := upC C i c) (c := setB c bd' bp' bk' bc') hi
  rw [upC_upC] at e2
  conv => lhs; rw [e]
  exact ho_ub.trans e2
theorem st_uj (hi : i < 6) : trU E (stU E M t dy iss fg cl (upC C i c)) (hbs t i + 1) 61 jd' jp' jk' = stU E M t dy iss fg cl (upC C i (setJ c jd' jp' jk')) := by
  have e := (ho_id (st_hc (E := E) (M := M) (t := t) (dy := dy) (iss := iss) (fg := fg) (cl := cl) (C := C) (c := c) hi)).symm
  have e2 := st_uh (E := E) (M := M) (t := t) (dy := dy) (iss := iss) (fg := fg) (cl := cl) (C := upC C i c) (c := setJ c jd' jp' jk') hi
  rw [upC_upC] at e2
  conv => lhs; rw [e]
  exact ho_uj.trans e2
end
theorem and1 {f : Int} (h : 0 ≤ f ∧ f ≤ 3) : iI f &&& iI 1 = iI (f % 2) := by
  rcases (show f = 0 ∨ f = 1 ∨ f = 2 ∨ f = 3 by omega) with rfl | rfl | rfl | rfl <;> decide
theorem and2 {f : Int} (h : 0 ≤ f ∧ f ≤ 3) : iI f &&& iI 2 = iI (2 * (f / 2)) := by
  rcases (show f = 0 ∨ f = 1 ∨ f = 2 ∨ f = 3 by omega) with rfl | rfl | rfl | rfl <;> decide
