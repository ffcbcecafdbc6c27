/-! the reference's object, its six cells as one memory; rows that keep them so -/
def MO (m : Nat) (kn kp ln st se sp wr le f1 f2 f3 f4 f5 sb : Int) : va_E := .inr (7, [.ref (m + 1), .ref (m + 2), .ref (m + 3), .int (iI kn), .ref (m + 4), .int (iI kp), .ref (m + 5), .int (iI ln), .int (iI st), .int (iI se), .int (iI sp), .int (iI wr), .int (iI le), .int (iI f1), .int (iI f2), .int (iI f3), .int (iI f4), .int (iI f5), .int (iI sb)])
def md (E : Ev) (M : Mem) (m : Nat) (s a h sn tx : Int → Int) (kn kp ln st se sp wr le f1 f2 f3 f4 f5 sb : Int) : Mem := fun q => if q = m then MO m kn kp ln st se sp wr le f1 f2 f3 f4 f5 sb else if q = m + 1 then ia E 622 s else if q = m + 2 then ia E 622 a else if q = m + 3 then ia E 2488 h else if q = m + 4 then ia E 622 sn else if q = m + 5 then ia E 60 tx else M q
section
variable {E : Ev} {M : Mem} {m : Nat} {s a h sn tx : Int → Int} {kn kp ln st se sp wr le f1 f2 f3 f4 f5 sb : Int}
theorem md_0 : md E M m s a h sn tx kn kp ln st se sp wr le f1 f2 f3 f4 f5 sb m = MO m kn kp ln st se sp wr le f1 f2 f3 f4 f5 sb := if_pos rfl
theorem md_1 : md E M m s a h sn tx kn kp ln st se sp wr le f1 f2 f3 f4 f5 sb (m + 1) = ia E 622 s := by unfold md; simp
theorem md_2 : md E M m s a h sn tx kn kp ln st se sp wr le f1 f2 f3 f4 f5 sb (m + 2) = ia E 622 a := by unfold md; simp
theorem md_3 : md E M m s a h sn tx kn kp ln st se sp wr le f1 f2 f3 f4 f5 sb (m + 3) = ia E 2488 h := by unfold md; simp
theorem md_4 : md E M m s a h sn tx kn kp ln st se sp wr le f1 f2 f3 f4 f5 sb (m + 4) = ia E 622 sn := by unfold md; simp
theorem md_5 : md E M m s a h sn tx kn kp ln st se sp wr le f1 f2 f3 f4 f5 sb (m + 5) = ia E 60 tx := by unfold md; simp
theorem md_n {q : Nat} (hq : q < m ∨ m + 6 ≤ q) : md E M m s a h sn tx kn kp ln st se sp wr le f1 f2 f3 f4 f5 sb q = M q := by
  unfold md
  rw [if_neg (by omega), if_neg (by omega), if_neg (by omega), if_neg (by omega), if_neg (by omega), if_neg (by omega)]
theorem md_MS : MS E (md E M m s a h sn tx kn kp ln st se sp wr le f1 f2 f3 f4 f5 sb) m s := ⟨⟨_, md_0⟩, md_1⟩
theorem md_u1 {x : Int → Int} : va_up (md E M m s a h sn tx kn kp ln st se sp wr le f1 f2 f3 f4 f5 sb) (m + 1) (ia E 622 x) = md E M m x a h sn tx kn kp ln st se sp wr le f1 f2 f3 f4 f5 sb := by
  funext q
  unfold va_up md
  by_cases h : q = m + 1
  · subst h; simp
  · simp [h]
theorem md_u2 {x : Int → Int} : va_up (md E M m s a h sn tx kn kp ln st se sp wr le f1 f2 f3 f4 f5 sb) (m + 2) (ia E 622 x) = md E M m s x h sn tx kn kp ln st se sp wr le f1 f2 f3 f4 f5 sb := by
  funext q
  unfold va_up md
  by_cases h : q = m + 2
  · subst h; simp
  · simp [h]
theorem md_u3 {x : Int → Int} : va_up (md E M m s a h sn tx kn kp ln st se sp wr le f1 f2 f3 f4 f5 sb) (m + 3) (ia E 2488 x) = md E M m s a x sn tx kn kp ln st se sp wr le f1 f2 f3 f4 f5 sb := by
  funext q
  unfold va_up md
  by_cases h : q = m + 3
  · subst h; simp
  · simp [h]
theorem md_u4 {x : Int → Int} : va_up (md E M m s a h sn tx kn kp ln st se sp wr le f1 f2 f3 f4 f5 sb) (m + 4) (ia E 622 x) = md E M m s a h x tx kn kp ln st se sp wr le f1 f2 f3 f4 f5 sb := by
  funext q
  unfold va_up md
  by_cases h : q = m + 4
  · subst h; simp
  · simp [h]
theorem md_u5 {x : Int → Int} : va_up (md E M m s a h sn tx kn kp ln st se sp wr le f1 f2 f3 f4 f5 sb) (m + 5) (ia E 60 x) = md E M m s a h sn x kn kp ln st se sp wr le f1 f2 f3 f4 f5 sb := by
  funext q
  unfold va_up md
  by_cases h : q = m + 5
  · subst h; simp
  · simp [h]
theorem md_u0 {kn' kp' ln' st' se' sp' wr' le' f1' f2' f3' f4' f5' sb' : Int} : va_up (md E M m s a h sn tx kn kp ln st se sp wr le f1 f2 f3 f4 f5 sb) m (MO m kn' kp' ln' st' se' sp' wr' le' f1' f2' f3' f4' f5' sb') = md E M m s a h sn tx kn' kp' ln' st' se' sp' wr' le' f1' f2' f3' f4' f5' sb' := by
  funext q
  unfold va_up md
  by_cases h : q = m
  · subst h; simp
  · simp [h]
end
theorem up_same {M : Mem} {a : Nat} {e : va_E} (h : M a = e) : va_up M a e = M := by
  funext q; unfold va_up; split
  · next hq => subst hq; exact h.symm
  · rfl
/-- what an array holds outside its length does not matter -/
theorem V.rep {E : Ev} {X : Cx} {nc ns n pc a len : Nat} {M : Mem} {lc : List (Option Value)} {st : List Value} {f h : Int → Int} (hm : M a = ia E len f) (hfh : ∀ j : Int, 0 ≤ j → j < len → f j = h j) (k : V E X nc ns n (va_up M a (ia E len h)) pc lc st) : V E X nc ns n M pc lc st := by
  obtain ⟨l, D, cy, b0⟩ := E
  obtain ⟨p, e, R, s, m, args, below, meth, c, nL, Q⟩ := X
  intro H locs ls hn ho hP hS hl
  have ha := ho.in (a := a) (by rw [hm]; exact bad_l)
  have he := pool_get (M := M) ha
  refine k H locs ls hn (ho.up ha _) ?_ hS hl
  intro j q hq
  rw [pool_at] at hq
  split at hq
  · next hj =>
    cases hq
    have h0 := hP j (b0 + j, M (b0 + j)) (by rw [pool_at, if_pos hj])
    by_cases hja : b0 + j = a
    · subst hja
      rw [hm] at h0
      have h1 : H[b0 + j]? = some (vp_cell cy.2.1 (len, .inl (fun k : Nat => iI (f (k : Int))))) := h0
      show va_at D vwCl (b0 + j, va_up M (b0 + j) _ (b0 + j)) H
      rw [va_up_self]
      show H[b0 + j]? = some (vp_cell cy.2.1 (len, .inl (fun k : Nat => iI (h (k : Int)))))
      rw [h1]
      congr 1
      rw [vp_cell_i, vp_cell_i]
      unfold arrV
      congr 1
      congr 1
      funext i
      show Value.int (iI (f (i.val : Int))) = Value.int (iI (h (i.val : Int)))
      rw [hfh i.val (by omega) (by have := i.isLt; omega)]
    · show va_at D vwCl (b0 + j, va_up M a _ (b0 + j)) H
      rw [va_up_ne _ _ hja]
      exact h0
  · cases hq
def lcLe : List (Option Value) → List (Option Value) → Prop
  | [], [] => True
  | a :: r, b :: t => (a = none ∨ a = b) ∧ lcLe r t
  | _, _ => False
theorem lcLe_len : ∀ {l t : List (Option Value)}, lcLe l t → l.length = t.length
  | [], [], _ => rfl
  | _ :: _, _ :: _, h => by rw [List.length_cons, List.length_cons, lcLe_len h.2]
  | [], _ :: _, h => h.elim
  | _ :: _, [], h => h.elim
theorem lcLe_at : ∀ {l t : List (Option Value)}, lcLe l t → ∀ (i : Nat) (v : Value), l[i]? = some (some v) → t[i]? = some (some v)
  | [], [], _, i, v, h => by cases h
  | a :: r, b :: t, h, 0, v, q => by
    rcases h.1 with e | e
    · subst e; cases q
    · subst e; exact q
  | a :: r, b :: t, h, i + 1, v, q => lcLe_at h.2 i v q
  | [], _ :: _, h, _, _, _ => h.elim
  | _ :: _, [], h, _, _, _ => h.elim
/-- to know less of the locals -/
theorem V.weak {E : Ev} {X : Cx} {nc ns n pc : Nat} {M : Mem} {lc lc' : List (Option Value)} {st : List Value} (h : lcLe lc' lc) (k : V E X nc ns n M pc lc' st) : V E X nc ns n M pc lc st := by
  obtain ⟨l, D, cy, b0⟩ := E
  obtain ⟨p, e, R, s, m, args, below, meth, c, nL, Q⟩ := X
  intro H locs ls hn ho hP hS hl
  exact k H locs ls hn ho hP hS ⟨hl.1, hl.2.1, by rw [lcLe_len h]; exact hl.2.2.1, fun i v q => hl.2.2.2 i v (lcLe_at h i v q)⟩
section
variable {E : Ev} {X : Cx} {cc bytes : ByteArray} {own : String} {d mc ms nc ns n n1 pc q idx d' mc' ms' nLy k : Nat} {M M1 : Mem} {lc : List (Option Value)} {st rest as : List Value} {y : MethodName} {rety : Option FieldType}
/-- calls whose contract tells the answer and the memory behind it -/
theorem V.callVf {a ci : Nat} {r : vw_C} {fs : List Value} {w : Option Value} (g : G0 E X cc own d mc ms) (hM : MT E y bytes nLy rety d' mc' ms' (.ref a :: as) n M (PF w n1 M1)) (hy : KY y bytes nLy rety k) (hi : Cond.instanceMethod y ∈ tb) (hsl : Cond.selects y.cls y y ∈ tb) (hlk : Cond.methodLink own idx y ∈ tb) (hm : M a = .inr (ci, fs)) (hc : vwCl[ci]? = some r) (hrc : r.1 = y.cls) (hdd : d' + 1 ≤ d) (hmc : nc + mc' ≤ mc ∧ ns + ms' ≤ ms) (hst : st = as.reverse ++ .ref a :: rest) (hk : as.length = k) (hcat : (rest.map fun v => v.category).sum ≤ 8) (hd : Dc cc pc 3 q (.invokevirtual idx)) (kk : V E X (nc + mc') (ns + ms') n1 M1 q lc (w.toList ++ rest)) : V E X nc ns n M pc lc st :=
  V.callV g hM hy hi hsl hlk hm hc hrc hdd hmc hst hk hcat hd (fun v n' M' h => by obtain ⟨rfl, rfl, rfl⟩ := h; exact kk)
end
/-- the history's row, by its states -/
def hOf (H : Int → Int → Int) : Int → Int := fun j => H (j / 622) (j % 622)
def recH (H : Int → Int → Int) (s : Int → Int) (k : Int) : Int → Int → Int := if k = 4 then fun i => if i = 3 then s else H (i + 1) else fun i => if i = k then s else H i
def recK (k : Int) : Int := if k = 4 then 4 else k + 1
