/-! THE CLASS'S READING beside the reference's -/
theorem rn_y {tx : Int → Int} {ln sp least most : Int} (hl : 0 ≤ least ∧ least ≤ 9 ∧ 9 ≤ most) (h : nxt tx ln sp 0 (48 + least) 57) : rn tx ln sp least most = ((nm tx ln sp 0 least most).1, (nm tx ln sp 0 least most).2.1) ∧ (nm tx ln sp 0 least most).2.2 = 0 := by
  have h1 : nxt tx ln sp 0 48 57 := ⟨rfl, h.2.1, by have := h.2.2.1; omega, h.2.2.2⟩
  have hd : dgt tx ln sp = tx sp - 48 := if_pos h1
  have hb := h.2.2
  rw [nmYes h]
  unfold rn
  rw [if_pos (by omega), hd, show least + (tx sp - (48 + least)) = tx sp - 48 by omega]
  exact ⟨rfl, rfl⟩
theorem rn_n {tx : Int → Int} {ln sp least most : Int} (hl : 0 ≤ least ∧ least ≤ 9 ∧ 9 ≤ most) (h : ¬ nxt tx ln sp 0 (48 + least) 57) : rn tx ln sp least most = (-1, sp) := if_neg fun w => by
  have h1 := dgt_n (tx := tx) (ln := ln) (sp := sp) (by omega)
  have hd : dgt tx ln sp = tx sp - 48 := if_pos h1
  exact h ⟨rfl, h1.2.1, by omega, h1.2.2.2⟩
theorem rn_c {tx : Int → Int} {ln sp least most : Int} (hs : 0 ≤ sp ∧ sp ≤ ln) (hl : 0 ≤ least ∧ least ≤ 9 ∧ 9 ≤ most) : (nxt tx ln sp 0 (48 + least) 57 ∧ (rn tx ln sp least most).1 ≠ -1) ∨ (¬ nxt tx ln sp 0 (48 + least) 57 ∧ (rn tx ln sp least most).1 = -1) := by
  by_cases h : nxt tx ln sp 0 (48 + least) 57
  · left
    rw [(rn_y hl h).1]
    have := (nm_b (tx := tx) (wr := 0) hs hl).2.2
    exact ⟨h, by dsimp only; omega⟩
  · right
    rw [rn_n hl h]
    exact ⟨h, rfl⟩
/-- a sign and a number -/
theorem nd_w {tx : Int → Int} {ln sp wr c least most : Int} (h : ¬ nxt tx ln sp wr c c) : nm tx ln (tkS tx ln sp wr c c) (tkW tx ln sp wr c c) least most = (least + 0, sp, 1) := by
  rw [(tk_no h).2.1, (tk_no h).2.2, nmNo (fun q => absurd q.1 (by decide)), Int.add_zero sp]
theorem nd_n {tx : Int → Int} {ln sp c least most : Int} (h : nxt tx ln sp 0 c c) (h2 : ¬ nxt tx ln (sp + 1) 0 (48 + least) 57) : nm tx ln (tkS tx ln sp 0 c c) (tkW tx ln sp 0 c c) least most = (least + 0, sp + 1, 1) := by
  rw [(tk_yes h).2.1, (tk_yes h).2.2.1, nmNo h2]
theorem nd_y {tx : Int → Int} {ln sp c least most : Int} (hl : 0 ≤ least ∧ least ≤ 9 ∧ 9 ≤ most) (h : nxt tx ln sp 0 c c) (h2 : nxt tx ln (sp + 1) 0 (48 + least) 57) : nm tx ln (tkS tx ln sp 0 c c) (tkW tx ln sp 0 c c) least most = ((rn tx ln (sp + 1) least most).1, (rn tx ln (sp + 1) least most).2, 0) := by
  have e := rn_y hl h2
  rw [(tk_yes h).2.1, (tk_yes h).2.2.1, e.1]
  exact Prod.ext rfl (Prod.ext rfl e.2)
theorem vs2_of {tx : Int → Int} {ln sp wr x a w : Int} (e : vs1 tx ln sp wr = (x, a, w)) : vs2 tx ln sp wr = nm tx ln (tkS tx ln a w 45 45) (tkW tx ln a w 45 45) 0 999 := by unfold vs2; rw [e]
theorem vs3_of {tx : Int → Int} {ln sp wr x a w : Int} (e : vs2 tx ln sp wr = (x, a, w)) : vs3 tx ln sp wr = nm tx ln (tkS tx ln a w 42 42) (tkW tx ln a w 42 42) 1 99 := by unfold vs3; rw [e]
theorem w1n {tx : Int → Int} {ln sp lo hi : Int} : ¬ nxt tx ln sp 1 lo hi := fun q => absurd q.1 (by decide)
/-! passport and country, behind a letter -/
def p1v (tx : Int → Int) (ln q : Int) : Int := tkV tx ln q 0 48 53
def p2s (tx : Int → Int) (ln q : Int) : Int := tkS tx ln (tkS tx ln q 0 48 53) (tkW tx ln q 0 48 53) 48 53
def p2w (tx : Int → Int) (ln q : Int) : Int := tkW tx ln (tkS tx ln q 0 48 53) (tkW tx ln q 0 48 53) 48 53
def p2v (tx : Int → Int) (ln q : Int) : Int := tkV tx ln (tkS tx ln q 0 48 53) (tkW tx ln q 0 48 53) 48 53
theorem pc_y {tx : Int → Int} {ln q : Int} (h : nxt tx ln q 0 48 53 ∧ nxt tx ln (q + 1) 0 48 53) : p2s tx ln q = q + 2 ∧ p2w tx ln q = 0 ∧ p1v tx ln q = d5 tx ln q ∧ p2v tx ln q = d5 tx ln (q + 1) := by
  have e1 := tk_yes h.1
  have e2 := tk_yes h.2
  have f1 : d5 tx ln q = tx q - 48 := if_pos h.1
  have f2 : d5 tx ln (q + 1) = tx (q + 1) - 48 := if_pos h.2
  unfold p2s p2w p1v p2v
  rw [e1.1, e1.2.1, e1.2.2.1, e2.1, e2.2.1, e2.2.2.1, f1, f2]
  exact ⟨by omega, rfl, rfl, rfl⟩
theorem pc_n {tx : Int → Int} {ln q : Int} (h : ¬ (nxt tx ln q 0 48 53 ∧ nxt tx ln (q + 1) 0 48 53)) : p2s tx ln q = q + bI (nxt tx ln q 0 48 53) + bI (nxt tx ln q 0 48 53 ∧ nxt tx ln (q + 1) 0 48 53) ∧ p2w tx ln q = 1 := by
  unfold p2s p2w
  rw [bI_f h]
  by_cases a : nxt tx ln q 0 48 53
  · have e1 := tk_yes a
    have e2 := tk_no (tx := tx) (ln := ln) (sp := q + 1) (wr := 0) (lo := 48) (hi := 53) (fun b => h ⟨a, b⟩)
    rw [e1.2.1, e1.2.2.1, e2.2.1, e2.2.2, bI_t a]
    exact ⟨rfl, rfl⟩
  · have e1 := tk_no a
    have e2 := tk_no (tx := tx) (ln := ln) (sp := q + 0) (wr := 1) (lo := 48) (hi := 53) w1n
    rw [e1.2.1, e1.2.2, e2.2.1, e2.2.2, bI_f a]
    exact ⟨rfl, rfl⟩
def vR1 (tx : Int → Int) (ln q : Int) : Int × Int × Int := vs1 tx ln (p2s tx ln q) (p2w tx ln q)
def vR2 (tx : Int → Int) (ln q : Int) : Int × Int × Int := vs2 tx ln (p2s tx ln q) (p2w tx ln q)
def vR3 (tx : Int → Int) (ln q : Int) : Int × Int × Int := vs3 tx ln (p2s tx ln q) (p2w tx ln q)
theorem vR1_y {tx : Int → Int} {ln q : Int} (h : nxt tx ln q 0 48 53 ∧ nxt tx ln (q + 1) 0 48 53) : vR1 tx ln q = nm tx ln (tkS tx ln (q + 2) 0 58 58) (tkW tx ln (q + 2) 0 58 58) 0 999 := by
  have e := pc_y h
  unfold vR1
  rw [e.1, e.2.1]; rfl
theorem vR2_of {tx : Int → Int} {ln q x a w : Int} (e : vR1 tx ln q = (x, a, w)) : vR2 tx ln q = nm tx ln (tkS tx ln a w 45 45) (tkW tx ln a w 45 45) 0 999 := vs2_of e
theorem vR3_of {tx : Int → Int} {ln q x a w : Int} (e : vR2 tx ln q = (x, a, w)) : vR3 tx ln q = nm tx ln (tkS tx ln a w 42 42) (tkW tx ln a w 42 42) 1 99 := vs3_of e
theorem vR3_1 {tx : Int → Int} {ln q x a : Int} (e : vR1 tx ln q = (x, a, 1)) : vR3 tx ln q = (1 + 0, a, 1) := by
  have e2 := vR2_of e
  rw [nd_w w1n] at e2
  rw [vR3_of e2, nd_w w1n]
theorem vR3_2 {tx : Int → Int} {ln q x a : Int} (e : vR2 tx ln q = (x, a, 1)) : vR3 tx ln q = (1 + 0, a, 1) := by
  rw [vR3_of e, nd_w w1n]
theorem vR3_0 {tx : Int → Int} {ln q : Int} (h : ¬ (nxt tx ln q 0 48 53 ∧ nxt tx ln (q + 1) 0 48 53)) : vR3 tx ln q = (1 + 0, q + bI (nxt tx ln q 0 48 53) + bI (nxt tx ln q 0 48 53 ∧ nxt tx ln (q + 1) 0 48 53), 1) := by
  have e := pc_n h
  refine vR3_1 (x := 0 + 0) ?_
  unfold vR1
  rw [e.1, e.2]
  exact nd_w w1n
/-! one thing, by its letter -/
theorem oL_eq {tx : Int → Int} {ln sp k : Int} (h : nxt tx ln sp 0 k k) : oL tx ln sp = k := by
  have e : oL tx ln sp = tx sp := if_pos h.2.1
  have := h.2.2
  omega
theorem oL_ne {tx : Int → Int} {ln sp k : Int} (h : ¬ nxt tx ln sp 0 k k) (hk : k ≠ 0) : oL tx ln sp ≠ k := fun q => by
  unfold oL at q
  split at q
  · next hl => exact h ⟨rfl, hl, by omega, by omega⟩
  · omega
theorem oW_y {tx : Int → Int} {ln sp : Int} (h : oL tx ln sp = 120 ∨ oL tx ln sp = 118 ∨ oL tx ln sp = 46) : oW tx ln sp = 0 ∧ oS tx ln sp = sp + 1 := by
  have e : oW tx ln sp = 0 := bI_f (fun q => q h)
  exact ⟨e, by unfold oS; rw [e]; rfl⟩
theorem o_p {tx : Int → Int} {ln sp : Int} (h : oW tx ln sp = 0 ∧ oS tx ln sp = sp + 1) : o1v tx ln sp = p1v tx ln (sp + 1) ∧ o2s tx ln sp = p2s tx ln (sp + 1) ∧ o2w tx ln sp = p2w tx ln (sp + 1) ∧ o2v tx ln sp = p2v tx ln (sp + 1) := by
  unfold o2s o2w o2v o1v o1s o1w p1v p2s p2w p2v
  rw [h.1, h.2]
  exact ⟨rfl, rfl, rfl, rfl⟩
abbrev rd0 (tx : Int → Int) (ln sp : Int) : TH := rd1 tx ln sp 0 0 0 0 0
theorem rd0_dot {tx : Int → Int} {ln sp : Int} (h : nxt tx ln sp 0 46 46) : rd0 tx ln sp = ((nm tx ln (sp + 1) 0 1 99).2.1, (nm tx ln (sp + 1) 0 1 99).2.2, 46, (nm tx ln (sp + 1) 0 1 99).1, 0, 0, 0, 0) := by
  have e := oL_eq h
  have w := oW_y (tx := tx) (ln := ln) (sp := sp) (by omega)
  unfold rd0 rd1
  rw [if_pos e, w.1, w.2, e]
theorem rd0_v {tx : Int → Int} {ln sp : Int} (h : nxt tx ln sp 0 118 118) : rd0 tx ln sp = ((vR3 tx ln (sp + 1)).2.1, (vR3 tx ln (sp + 1)).2.2, 118, p1v tx ln (sp + 1), p2v tx ln (sp + 1), (vR1 tx ln (sp + 1)).1, (vR2 tx ln (sp + 1)).1, (vR3 tx ln (sp + 1)).1) := by
  have e := oL_eq h
  have w := oW_y (tx := tx) (ln := ln) (sp := sp) (by omega)
  have p := o_p w
  unfold rd0 rd1
  rw [if_neg (by omega), if_pos e, p.1, p.2.1, p.2.2.1, p.2.2.2, e]
  rfl
theorem rd0_xn {tx : Int → Int} {ln sp : Int} (h : nxt tx ln sp 0 120 120) (h2 : ¬ (nxt tx ln (sp + 1) 0 48 53 ∧ nxt tx ln (sp + 1 + 1) 0 48 53)) : (rd0 tx ln sp).1 = sp + 1 + bI (nxt tx ln (sp + 1) 0 48 53) + bI (nxt tx ln (sp + 1) 0 48 53 ∧ nxt tx ln (sp + 1 + 1) 0 48 53) ∧ (rd0 tx ln sp).2.1 = 1 := by
  have e := oL_eq h
  have w := oW_y (tx := tx) (ln := ln) (sp := sp) (by omega)
  have p := o_p w
  have q := pc_n h2
  unfold rd0 rd1
  rw [if_neg (by omega), if_neg (by omega)]
  have ew : o2w tx ln sp = 1 := p.2.2.1.trans q.2
  have ea : ocA tx ln sp = 0 := bI_f (by rw [ew]; exact w1n)
  have eb : ocB tx ln sp = 0 := bI_f (by rw [ew]; exact w1n)
  refine ⟨?_, ew⟩
  show ocS tx ln sp + ocB tx ln sp = _
  have es : ocS tx ln sp = o2s tx ln sp + ocA tx ln sp := rfl
  rw [es, ea, eb, p.2.1, q.1]
  omega
theorem rd0_xy {tx : Int → Int} {ln sp : Int} (h : nxt tx ln sp 0 120 120) (h2 : nxt tx ln (sp + 1) 0 48 53 ∧ nxt tx ln (sp + 1 + 1) 0 48 53) : rd0 tx ln sp = (sp + 1 + 2 + bI (nxt tx ln (sp + 1 + 2) 0 33 33) + bI (nxt tx ln (sp + 1 + 2 + bI (nxt tx ln (sp + 1 + 2) 0 33 33)) 0 63 63), 0, 120, d5 tx ln (sp + 1), d5 tx ln (sp + 1 + 1), bI (nxt tx ln (sp + 1 + 2) 0 33 33) + 2 * bI (nxt tx ln (sp + 1 + 2 + bI (nxt tx ln (sp + 1 + 2) 0 33 33)) 0 63 63), 0, 0) := by
  have e := oL_eq h
  have w := oW_y (tx := tx) (ln := ln) (sp := sp) (by omega)
  have p := o_p w
  have q := pc_y h2
  unfold rd0 rd1
  rw [if_neg (by omega), if_neg (by omega)]
  have ew : o2w tx ln sp = 0 := p.2.2.1.trans q.2.1
  have e2 : o2s tx ln sp = sp + 1 + 2 := p.2.1.trans q.1
  have ea : ocA tx ln sp = bI (nxt tx ln (sp + 1 + 2) 0 33 33) := by unfold ocA; rw [e2, ew]
  have es : ocS tx ln sp = sp + 1 + 2 + bI (nxt tx ln (sp + 1 + 2) 0 33 33) := by unfold ocS; rw [e2, ea]
  have eb : ocB tx ln sp = bI (nxt tx ln (sp + 1 + 2 + bI (nxt tx ln (sp + 1 + 2) 0 33 33)) 0 63 63) := by unfold ocB; rw [es, ew]
  unfold ocT
  rw [es, ea, eb, ew, e, p.1, p.2.2.2, q.2.2.1, q.2.2.2]
theorem rd0_no {tx : Int → Int} {ln sp : Int} (h1 : ¬ nxt tx ln sp 0 120 120) (h2 : ¬ nxt tx ln sp 0 118 118) (h3 : ¬ nxt tx ln sp 0 46 46) : (rd0 tx ln sp).1 = sp ∧ (rd0 tx ln sp).2.1 = 1 := by
  have e1 := oL_ne h1 (by decide)
  have e2 := oL_ne h2 (by decide)
  have e3 := oL_ne h3 (by decide)
  have ew0 : oW tx ln sp = 1 := bI_t (by omega)
  have es0 : oS tx ln sp = sp + 0 := by unfold oS; rw [ew0]; rfl
  have k1 := tk_no (tx := tx) (ln := ln) (sp := sp + 0) (wr := 1) (lo := 48) (hi := 53) w1n
  have k2 := tk_no (tx := tx) (ln := ln) (sp := sp + 0 + 0) (wr := 1) (lo := 48) (hi := 53) w1n
  have a1 : o1s tx ln sp = sp + 0 + 0 := by unfold o1s; rw [ew0, es0]; exact k1.2.1
  have a2 : o1w tx ln sp = 1 := by unfold o1w; rw [ew0, es0]; exact k1.2.2
  have b1 : o2s tx ln sp = sp + 0 + 0 + 0 := by unfold o2s; rw [a1, a2]; exact k2.2.1
  have b2 : o2w tx ln sp = 1 := by unfold o2w; rw [a1, a2]; exact k2.2.2
  unfold rd0 rd1
  rw [if_neg e3, if_neg e2]
  have ea : ocA tx ln sp = 0 := bI_f (by rw [b2]; exact w1n)
  have eb : ocB tx ln sp = 0 := bI_f (by rw [b2]; exact w1n)
  refine ⟨?_, b2⟩
  show ocS tx ln sp + ocB tx ln sp = _
  have es : ocS tx ln sp = o2s tx ln sp + ocA tx ln sp := rfl
  rw [es, ea, eb, b1]
  omega
/-- what a thing that is read tells of the class's fields -/
def thR (r : TH) (ki pa co fo fr un da : Int) : Prop := (r.2.2.1 = 120 ∧ ki = 0 ∧ pa = r.2.2.2.1 ∧ co = r.2.2.2.2.1 ∧ fo = r.2.2.2.2.2.1) ∨ (r.2.2.1 = 118 ∧ ki = 1 ∧ pa = r.2.2.2.1 ∧ co = r.2.2.2.2.1 ∧ fr = r.2.2.2.2.2.1 ∧ un = r.2.2.2.2.2.2.1 ∧ da = r.2.2.2.2.2.2.2) ∨ (r.2.2.1 = 46 ∧ ki = 2 ∧ da = r.2.2.2.1)
/-- where the next thing begins -/
abbrev nxAt (tx : Int → Int) (ln nx sp : Int) : Prop := (nx = 0 ∧ sp = 0) ∨ (0 < nx ∧ nxt tx ln nx 0 59 59 ∧ sp = nx + 1)
