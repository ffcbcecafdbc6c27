/-! one row an instruction: 'Dc' (its decode row, where it ends), 'Dj' (a branch: where it goes) -/
def Dj (cc : ByteArray) (pc q t : Nat) (f : Int → Instr) : Prop := ∃ off : Int, decode cc pc = .ok (f off, 3) ∧ pc + 3 = q ∧ (pc : Int) + off = (t : Int)
theorem V.iconst {E : Ev} {X : Cx} {cc : ByteArray} {own : String} {d mc ms nc ns n pc q : Nat} {M : Mem} {lc : List (Option Value)} {st : List Value} {z : Int} (g : G0 E X cc own d mc ms) (hd : Dc cc pc 1 q (.iconst z)) (k : V E X nc ns n M q lc (.int (iI z) :: st)) : V E X nc ns n M pc lc st := by
  obtain ⟨l, D, cy, b0⟩ := E
  obtain ⟨p, e, R, s, m, args, below, meth, c, nL, Q⟩ := X
  obtain ⟨hx, hb, hml, hown, hts, ⟨hK, hAO, hNe⟩, hbs, hR1, hR2, hR3, hR4⟩ := g
  intro H locs ls hn ho hP hS hl
  obtain ⟨hd, rfl⟩ := hd
  exact lv_iconst hx hb hd rfl (k H locs ls hn ho hP hS hl)
theorem V.bipush {E : Ev} {X : Cx} {cc : ByteArray} {own : String} {d mc ms nc ns n pc q : Nat} {M : Mem} {lc : List (Option Value)} {st : List Value} {z : Int} (g : G0 E X cc own d mc ms) (hd : Dc cc pc 2 q (.bipush z)) (hv : (Int8.ofInt z).toInt32 = iI z) (k : V E X nc ns n M q lc (.int (iI z) :: st)) : V E X nc ns n M pc lc st := by
  obtain ⟨l, D, cy, b0⟩ := E
  obtain ⟨p, e, R, s, m, args, below, meth, c, nL, Q⟩ := X
  obtain ⟨hx, hb, hml, hown, hts, ⟨hK, hAO, hNe⟩, hbs, hR1, hR2, hR3, hR4⟩ := g
  intro H locs ls hn ho hP hS hl
  obtain ⟨hd, rfl⟩ := hd
  exact lv_bipush hx hb hd hv (k H locs ls hn ho hP hS hl)
theorem V.sipush {E : Ev} {X : Cx} {cc : ByteArray} {own : String} {d mc ms nc ns n pc q : Nat} {M : Mem} {lc : List (Option Value)} {st : List Value} {z : Int} (g : G0 E X cc own d mc ms) (hd : Dc cc pc 3 q (.sipush z)) (hv : (Int16.ofInt z).toInt32 = iI z) (k : V E X nc ns n M q lc (.int (iI z) :: st)) : V E X nc ns n M pc lc st := by
  obtain ⟨l, D, cy, b0⟩ := E
  obtain ⟨p, e, R, s, m, args, below, meth, c, nL, Q⟩ := X
  obtain ⟨hx, hb, hml, hown, hts, ⟨hK, hAO, hNe⟩, hbs, hR1, hR2, hR3, hR4⟩ := g
  intro H locs ls hn ho hP hS hl
  obtain ⟨hd, rfl⟩ := hd
  exact lv_sipush hx hb hd hv (k H locs ls hn ho hP hS hl)
theorem V.anull {E : Ev} {X : Cx} {cc : ByteArray} {own : String} {d mc ms nc ns n pc q : Nat} {M : Mem} {lc : List (Option Value)} {st : List Value}  (g : G0 E X cc own d mc ms) (hd : Dc cc pc 1 q .aconst_null) (k : V E X nc ns n M q lc (.null :: st)) : V E X nc ns n M pc lc st := by
  obtain ⟨l, D, cy, b0⟩ := E
  obtain ⟨p, e, R, s, m, args, below, meth, c, nL, Q⟩ := X
  obtain ⟨hx, hb, hml, hown, hts, ⟨hK, hAO, hNe⟩, hbs, hR1, hR2, hR3, hR4⟩ := g
  intro H locs ls hn ho hP hS hl
  obtain ⟨hd, rfl⟩ := hd
  exact lv_null hx hb hd (k H locs ls hn ho hP hS hl)
theorem V.lconst0 {E : Ev} {X : Cx} {cc : ByteArray} {own : String} {d mc ms nc ns n pc q : Nat} {M : Mem} {lc : List (Option Value)} {st : List Value}  (g : G0 E X cc own d mc ms) (hd : Dc cc pc 1 q (.lconst 0)) (k : V E X nc ns n M q lc (.long 0 :: st)) : V E X nc ns n M pc lc st := by
  obtain ⟨l, D, cy, b0⟩ := E
  obtain ⟨p, e, R, s, m, args, below, meth, c, nL, Q⟩ := X
  obtain ⟨hx, hb, hml, hown, hts, ⟨hK, hAO, hNe⟩, hbs, hR1, hR2, hR3, hR4⟩ := g
  intro H locs ls hn ho hP hS hl
  obtain ⟨hd, rfl⟩ := hd
  exact lv_lconst hx hb hd rfl (k H locs ls hn ho hP hS hl)
theorem V.lconst1 {E : Ev} {X : Cx} {cc : ByteArray} {own : String} {d mc ms nc ns n pc q : Nat} {M : Mem} {lc : List (Option Value)} {st : List Value}  (g : G0 E X cc own d mc ms) (hd : Dc cc pc 1 q (.lconst 1)) (k : V E X nc ns n M q lc (.long 1 :: st)) : V E X nc ns n M pc lc st := by
  obtain ⟨l, D, cy, b0⟩ := E
  obtain ⟨p, e, R, s, m, args, below, meth, c, nL, Q⟩ := X
  obtain ⟨hx, hb, hml, hown, hts, ⟨hK, hAO, hNe⟩, hbs, hR1, hR2, hR3, hR4⟩ := g
  intro H locs ls hn ho hP hS hl
  obtain ⟨hd, rfl⟩ := hd
  exact lv_lconst hx hb hd rfl (k H locs ls hn ho hP hS hl)
theorem V.iload_n {E : Ev} {X : Cx} {cc : ByteArray} {own : String} {d mc ms nc ns n pc q : Nat} {M : Mem} {lc : List (Option Value)} {st : List Value} {k : Fin 4} {x : Int32} (g : G0 E X cc own d mc ms) (hd : Dc cc pc 1 q (.iload_n k)) (hk : lc[(k : Nat)]? = some (some (.int x))) (k : V E X nc ns n M q lc (.int x :: st)) : V E X nc ns n M pc lc st := by
  obtain ⟨l, D, cy, b0⟩ := E
  obtain ⟨p, e, R, s, m, args, below, meth, c, nL, Q⟩ := X
  obtain ⟨hx, hb, hml, hown, hts, ⟨hK, hAO, hNe⟩, hbs, hR1, hR2, hR3, hR4⟩ := g
  intro H locs ls hn ho hP hS hl
  obtain ⟨hd, rfl⟩ := hd
  exact lv_iload_n hx hb hd rfl (hl.2.2.2 _ _ hk).1 (k H locs ls hn ho hP hS hl)
theorem V.iload {E : Ev} {X : Cx} {cc : ByteArray} {own : String} {d mc ms nc ns n pc q : Nat} {M : Mem} {lc : List (Option Value)} {st : List Value} {i : Nat} {x : Int32} (g : G0 E X cc own d mc ms) (hd : Dc cc pc 2 q (.iload i)) (hk : lc[i]? = some (some (.int x))) (k : V E X nc ns n M q lc (.int x :: st)) : V E X nc ns n M pc lc st := by
  obtain ⟨l, D, cy, b0⟩ := E
  obtain ⟨p, e, R, s, m, args, below, meth, c, nL, Q⟩ := X
  obtain ⟨hx, hb, hml, hown, hts, ⟨hK, hAO, hNe⟩, hbs, hR1, hR2, hR3, hR4⟩ := g
  intro H locs ls hn ho hP hS hl
  obtain ⟨hd, rfl⟩ := hd
  exact lv_iload hx hb hd (hl.2.2.2 _ _ hk).1 (k H locs ls hn ho hP hS hl)
theorem V.aload_n {E : Ev} {X : Cx} {cc : ByteArray} {own : String} {d mc ms nc ns n pc q : Nat} {M : Mem} {lc : List (Option Value)} {st : List Value} {k : Fin 4} {x : Nat} (g : G0 E X cc own d mc ms) (hd : Dc cc pc 1 q (.aload_n k)) (hk : lc[(k : Nat)]? = some (some (.ref x))) (k : V E X nc ns n M q lc (.ref x :: st)) : V E X nc ns n M pc lc st := by
  obtain ⟨l, D, cy, b0⟩ := E
  obtain ⟨p, e, R, s, m, args, below, meth, c, nL, Q⟩ := X
  obtain ⟨hx, hb, hml, hown, hts, ⟨hK, hAO, hNe⟩, hbs, hR1, hR2, hR3, hR4⟩ := g
  intro H locs ls hn ho hP hS hl
  obtain ⟨hd, rfl⟩ := hd
  exact lv_aload_n hx hb hd rfl (hl.2.2.2 _ _ hk).1 (k H locs ls hn ho hP hS hl)
theorem V.aload {E : Ev} {X : Cx} {cc : ByteArray} {own : String} {d mc ms nc ns n pc q : Nat} {M : Mem} {lc : List (Option Value)} {st : List Value} {i : Nat} {x : Nat} (g : G0 E X cc own d mc ms) (hd : Dc cc pc 2 q (.aload i)) (hk : lc[i]? = some (some (.ref x))) (k : V E X nc ns n M q lc (.ref x :: st)) : V E X nc ns n M pc lc st := by
  obtain ⟨l, D, cy, b0⟩ := E
  obtain ⟨p, e, R, s, m, args, below, meth, c, nL, Q⟩ := X
  obtain ⟨hx, hb, hml, hown, hts, ⟨hK, hAO, hNe⟩, hbs, hR1, hR2, hR3, hR4⟩ := g
  intro H locs ls hn ho hP hS hl
  obtain ⟨hd, rfl⟩ := hd
  exact lv_aload hx hb hd (hl.2.2.2 _ _ hk).1 (k H locs ls hn ho hP hS hl)
theorem V.aloadN_n {E : Ev} {X : Cx} {cc : ByteArray} {own : String} {d mc ms nc ns n pc q : Nat} {M : Mem} {lc : List (Option Value)} {st : List Value} {k : Fin 4} (g : G0 E X cc own d mc ms) (hd : Dc cc pc 1 q (.aload_n k)) (hk : lc[(k : Nat)]? = some (some .null)) (k : V E X nc ns n M q lc (.null :: st)) : V E X nc ns n M pc lc st := by
  obtain ⟨l, D, cy, b0⟩ := E
  obtain ⟨p, e, R, s, m, args, below, meth, c, nL, Q⟩ := X
  obtain ⟨hx, hb, hml, hown, hts, ⟨hK, hAO, hNe⟩, hbs, hR1, hR2, hR3, hR4⟩ := g
  intro H locs ls hn ho hP hS hl
  obtain ⟨hd, rfl⟩ := hd
  exact lv_aload_nN hx hb hd rfl (hl.2.2.2 _ _ hk).1 (k H locs ls hn ho hP hS hl)
theorem V.aloadN {E : Ev} {X : Cx} {cc : ByteArray} {own : String} {d mc ms nc ns n pc q : Nat} {M : Mem} {lc : List (Option Value)} {st : List Value} {i : Nat} (g : G0 E X cc own d mc ms) (hd : Dc cc pc 2 q (.aload i)) (hk : lc[i]? = some (some .null)) (k : V E X nc ns n M q lc (.null :: st)) : V E X nc ns n M pc lc st := by
  obtain ⟨l, D, cy, b0⟩ := E
  obtain ⟨p, e, R, s, m, args, below, meth, c, nL, Q⟩ := X
  obtain ⟨hx, hb, hml, hown, hts, ⟨hK, hAO, hNe⟩, hbs, hR1, hR2, hR3, hR4⟩ := g
  intro H locs ls hn ho hP hS hl
  obtain ⟨hd, rfl⟩ := hd
  exact lv_aloadN hx hb hd (hl.2.2.2 _ _ hk).1 (k H locs ls hn ho hP hS hl)
theorem V.istore_n {E : Ev} {X : Cx} {cc : ByteArray} {own : String} {d mc ms nc ns n pc q : Nat} {M : Mem} {lc : List (Option Value)} {st : List Value} {i : Fin 4} {x : Int32} (g : G0 E X cc own d mc ms) (hd : Dc cc pc 1 q (.istore_n i)) (hi : (i : Nat) < lc.length) (k : V E X nc ns n M q (lc.set (i : Nat) (some (.int x))) st) : V E X nc ns n M pc lc (.int x :: st) := by
  obtain ⟨l, D, cy, b0⟩ := E
  obtain ⟨p, e, R, s, m, args, below, meth, c, nL, Q⟩ := X
  obtain ⟨hx, hb, hml, hown, hts, ⟨hK, hAO, hNe⟩, hbs, hR1, hR2, hR3, hR4⟩ := g
  intro H locs ls hn ho hP hS hl
  obtain ⟨hd, rfl⟩ := hd
  have hi := hl.2.2.1 ▸ hi
  exact lv_istore_n hx hb hd rfl hl.has hi rfl (fun ls2 hl2 => k H locs ls2 hn ho hP hS (hl.set hi rfl hl2))
theorem V.istore {E : Ev} {X : Cx} {cc : ByteArray} {own : String} {d mc ms nc ns n pc q : Nat} {M : Mem} {lc : List (Option Value)} {st : List Value} {i : Nat} {x : Int32} (g : G0 E X cc own d mc ms) (hd : Dc cc pc 2 q (.istore i)) (hi : i < lc.length) (k : V E X nc ns n M q (lc.set i (some (.int x))) st) : V E X nc ns n M pc lc (.int x :: st) := by
  obtain ⟨l, D, cy, b0⟩ := E
  obtain ⟨p, e, R, s, m, args, below, meth, c, nL, Q⟩ := X
  obtain ⟨hx, hb, hml, hown, hts, ⟨hK, hAO, hNe⟩, hbs, hR1, hR2, hR3, hR4⟩ := g
  intro H locs ls hn ho hP hS hl
  obtain ⟨hd, rfl⟩ := hd
  have hi := hl.2.2.1 ▸ hi
  exact lv_istore hx hb hd hl.has hi rfl (fun ls2 hl2 => k H locs ls2 hn ho hP hS (hl.set hi rfl hl2))
theorem V.astore_n {E : Ev} {X : Cx} {cc : ByteArray} {own : String} {d mc ms nc ns n pc q : Nat} {M : Mem} {lc : List (Option Value)} {st : List Value} {i : Fin 4} {x : Nat} (g : G0 E X cc own d mc ms) (hd : Dc cc pc 1 q (.astore_n i)) (hi : (i : Nat) < lc.length) (k : V E X nc ns n M q (lc.set (i : Nat) (some (.ref x))) st) : V E X nc ns n M pc lc (.ref x :: st) := by
  obtain ⟨l, D, cy, b0⟩ := E
  obtain ⟨p, e, R, s, m, args, below, meth, c, nL, Q⟩ := X
  obtain ⟨hx, hb, hml, hown, hts, ⟨hK, hAO, hNe⟩, hbs, hR1, hR2, hR3, hR4⟩ := g
  intro H locs ls hn ho hP hS hl
  obtain ⟨hd, rfl⟩ := hd
  have hi := hl.2.2.1 ▸ hi
  exact lv_astore_n hx hb hd rfl hl.has hi rfl (fun ls2 hl2 => k H locs ls2 hn ho hP hS (hl.set hi rfl hl2))
theorem V.astore {E : Ev} {X : Cx} {cc : ByteArray} {own : String} {d mc ms nc ns n pc q : Nat} {M : Mem} {lc : List (Option Value)} {st : List Value} {i : Nat} {x : Nat} (g : G0 E X cc own d mc ms) (hd : Dc cc pc 2 q (.astore i)) (hi : i < lc.length) (k : V E X nc ns n M q (lc.set i (some (.ref x))) st) : V E X nc ns n M pc lc (.ref x :: st) := by
  obtain ⟨l, D, cy, b0⟩ := E
  obtain ⟨p, e, R, s, m, args, below, meth, c, nL, Q⟩ := X
  obtain ⟨hx, hb, hml, hown, hts, ⟨hK, hAO, hNe⟩, hbs, hR1, hR2, hR3, hR4⟩ := g
  intro H locs ls hn ho hP hS hl
  obtain ⟨hd, rfl⟩ := hd
  have hi := hl.2.2.1 ▸ hi
  exact lv_astore hx hb hd hl.has hi rfl (fun ls2 hl2 => k H locs ls2 hn ho hP hS (hl.set hi rfl hl2))
theorem V.astoreN_n {E : Ev} {X : Cx} {cc : ByteArray} {own : String} {d mc ms nc ns n pc q : Nat} {M : Mem} {lc : List (Option Value)} {st : List Value} {i : Fin 4}  (g : G0 E X cc own d mc ms) (hd : Dc cc pc 1 q (.astore_n i)) (hi : (i : Nat) < lc.length) (k : V E X nc ns n M q (lc.set (i : Nat) (some (.null))) st) : V E X nc ns n M pc lc (.null :: st) := by
  obtain ⟨l, D, cy, b0⟩ := E
  obtain ⟨p, e, R, s, m, args, below, meth, c, nL, Q⟩ := X
  obtain ⟨hx, hb, hml, hown, hts, ⟨hK, hAO, hNe⟩, hbs, hR1, hR2, hR3, hR4⟩ := g
  intro H locs ls hn ho hP hS hl
  obtain ⟨hd, rfl⟩ := hd
  have hi := hl.2.2.1 ▸ hi
  exact lv_astore_nN hx hb hd rfl hl.has hi rfl (fun ls2 hl2 => k H locs ls2 hn ho hP hS (hl.set hi rfl hl2))
theorem V.astoreN {E : Ev} {X : Cx} {cc : ByteArray} {own : String} {d mc ms nc ns n pc q : Nat} {M : Mem} {lc : List (Option Value)} {st : List Value} {i : Nat}  (g : G0 E X cc own d mc ms) (hd : Dc cc pc 2 q (.astore i)) (hi : i < lc.length) (k : V E X nc ns n M q (lc.set i (some (.null))) st) : V E X nc ns n M pc lc (.null :: st) := by
  obtain ⟨l, D, cy, b0⟩ := E
  obtain ⟨p, e, R, s, m, args, below, meth, c, nL, Q⟩ := X
  obtain ⟨hx, hb, hml, hown, hts, ⟨hK, hAO, hNe⟩, hbs, hR1, hR2, hR3, hR4⟩ := g
  intro H locs ls hn ho hP hS hl
  obtain ⟨hd, rfl⟩ := hd
  have hi := hl.2.2.1 ▸ hi
  exact lv_astoreN hx hb hd hl.has hi rfl (fun ls2 hl2 => k H locs ls2 hn ho hP hS (hl.set hi rfl hl2))
theorem V.iinc {E : Ev} {X : Cx} {cc : ByteArray} {own : String} {d mc ms nc ns n pc q : Nat} {M : Mem} {lc : List (Option Value)} {st : List Value} {i : Nat} {a z : Int} (g : G0 E X cc own d mc ms) (hd : Dc cc pc 3 q (.iinc i z)) (hk : lc[i]? = some (some (.int (iI a)))) (k : V E X nc ns n M q (lc.set i (some (.int (iI (a + z))))) st) : V E X nc ns n M pc lc st := by
  obtain ⟨l, D, cy, b0⟩ := E
  obtain ⟨p, e, R, s, m, args, below, meth, c, nL, Q⟩ := X
  obtain ⟨hx, hb, hml, hown, hts, ⟨hK, hAO, hNe⟩, hbs, hR1, hR2, hR3, hR4⟩ := g
  intro H locs ls hn ho hP hS hl
  obtain ⟨hd, rfl⟩ := hd
  have hi : i < nL := hl.2.2.1 ▸ (List.getElem?_eq_some_iff.mp hk).1
  obtain ⟨j, hj⟩ := List.getElem?_of_mem (lhl_mem.mpr hk)
  exact lv_iinc hx hb hd hl.has hj (iI_add a z) hi rfl (fun ls2 hl2 => k H locs ls2 hn ho hP hS (hl.set hi rfl hl2))
theorem V.iadd {E : Ev} {X : Cx} {cc : ByteArray} {own : String} {d mc ms nc ns n pc q : Nat} {M : Mem} {lc : List (Option Value)} {st : List Value} {x y : Int} (g : G0 E X cc own d mc ms) (hd : Dc cc pc 1 q .iadd) (k : V E X nc ns n M q lc (.int (iI (x + y)) :: st)) : V E X nc ns n M pc lc (.int (iI y) :: .int (iI x) :: st) := by
  obtain ⟨l, D, cy, b0⟩ := E
  obtain ⟨p, e, R, s, m, args, below, meth, c, nL, Q⟩ := X
  obtain ⟨hx, hb, hml, hown, hts, ⟨hK, hAO, hNe⟩, hbs, hR1, hR2, hR3, hR4⟩ := g
  intro H locs ls hn ho hP hS hl
  obtain ⟨hd, rfl⟩ := hd
  refine lv_iadd hx hb hd ?_
  rw [iI_add]
  exact k H locs ls hn ho hP hS hl
theorem V.isub {E : Ev} {X : Cx} {cc : ByteArray} {own : String} {d mc ms nc ns n pc q : Nat} {M : Mem} {lc : List (Option Value)} {st : List Value} {x y : Int} (g : G0 E X cc own d mc ms) (hd : Dc cc pc 1 q .isub) (k : V E X nc ns n M q lc (.int (iI (x - y)) :: st)) : V E X nc ns n M pc lc (.int (iI y) :: .int (iI x) :: st) := by
  obtain ⟨l, D, cy, b0⟩ := E
  obtain ⟨p, e, R, s, m, args, below, meth, c, nL, Q⟩ := X
  obtain ⟨hx, hb, hml, hown, hts, ⟨hK, hAO, hNe⟩, hbs, hR1, hR2, hR3, hR4⟩ := g
  intro H locs ls hn ho hP hS hl
  obtain ⟨hd, rfl⟩ := hd
  refine lv_isub hx hb hd ?_
  rw [iI_sub]
  exact k H locs ls hn ho hP hS hl
theorem V.imul {E : Ev} {X : Cx} {cc : ByteArray} {own : String} {d mc ms nc ns n pc q : Nat} {M : Mem} {lc : List (Option Value)} {st : List Value} {x y : Int} (g : G0 E X cc own d mc ms) (hd : Dc cc pc 1 q .imul) (k : V E X nc ns n M q lc (.int (iI (x * y)) :: st)) : V E X nc ns n M pc lc (.int (iI y) :: .int (iI x) :: st) := by
  obtain ⟨l, D, cy, b0⟩ := E
  obtain ⟨p, e, R, s, m, args, below, meth, c, nL, Q⟩ := X
  obtain ⟨hx, hb, hml, hown, hts, ⟨hK, hAO, hNe⟩, hbs, hR1, hR2, hR3, hR4⟩ := g
  intro H locs ls hn ho hP hS hl
  obtain ⟨hd, rfl⟩ := hd
  refine lv_imul hx hb hd ?_
  rw [iI_mul]
  exact k H locs ls hn ho hP hS hl
theorem V.idiv {E : Ev} {X : Cx} {cc : ByteArray} {own : String} {d mc ms nc ns n pc q : Nat} {M : Mem} {lc : List (Option Value)} {st : List Value} {x y : Int} (g : G0 E X cc own d mc ms) (hd : Dc cc pc 1 q .idiv) (h1 : 0 ≤ x ∧ x < 2147483648) (h2 : 0 < y ∧ y < 2147483648) (k : V E X nc ns n M q lc (.int (iI (x / y)) :: st)) : V E X nc ns n M pc lc (.int (iI y) :: .int (iI x) :: st) := by
  obtain ⟨l, D, cy, b0⟩ := E
  obtain ⟨p, e, R, s, m, args, below, meth, c, nL, Q⟩ := X
  obtain ⟨hx, hb, hml, hown, hts, ⟨hK, hAO, hNe⟩, hbs, hR1, hR2, hR3, hR4⟩ := g
  intro H locs ls hn ho hP hS hl
  obtain ⟨hd, rfl⟩ := hd
  refine lv_idiv hx hb hd (fun z => ?_) ?_
  · have := (iI_inj (a := y) (b := 0) (by omega)).mp z
    omega
  · rw [iI_div h1 h2]
    exact k H locs ls hn ho hP hS hl
theorem V.irem {E : Ev} {X : Cx} {cc : ByteArray} {own : String} {d mc ms nc ns n pc q : Nat} {M : Mem} {lc : List (Option Value)} {st : List Value} {x y : Int} (g : G0 E X cc own d mc ms) (hd : Dc cc pc 1 q .irem) (h1 : 0 ≤ x ∧ x < 2147483648) (h2 : 0 < y ∧ y < 2147483648) (k : V E X nc ns n M q lc (.int (iI (x % y)) :: st)) : V E X nc ns n M pc lc (.int (iI y) :: .int (iI x) :: st) := by
  obtain ⟨l, D, cy, b0⟩ := E
  obtain ⟨p, e, R, s, m, args, below, meth, c, nL, Q⟩ := X
  obtain ⟨hx, hb, hml, hown, hts, ⟨hK, hAO, hNe⟩, hbs, hR1, hR2, hR3, hR4⟩ := g
  intro H locs ls hn ho hP hS hl
  obtain ⟨hd, rfl⟩ := hd
  refine lv_irem hx hb hd (fun z => ?_) ?_
  · have := (iI_inj (a := y) (b := 0) (by omega)).mp z
    omega
  · rw [iI_rem h1 h2]
    exact k H locs ls hn ho hP hS hl
theorem V.iand {E : Ev} {X : Cx} {cc : ByteArray} {own : String} {d mc ms nc ns n pc q : Nat} {M : Mem} {lc : List (Option Value)} {st : List Value} {x y z : Int32} (g : G0 E X cc own d mc ms) (hd : Dc cc pc 1 q .iand) (hz : x &&& y = z) (k : V E X nc ns n M q lc (.int z :: st)) : V E X nc ns n M pc lc (.int y :: .int x :: st) := by
  obtain ⟨l, D, cy, b0⟩ := E
  obtain ⟨p, e, R, s, m, args, below, meth, c, nL, Q⟩ := X
  obtain ⟨hx, hb, hml, hown, hts, ⟨hK, hAO, hNe⟩, hbs, hR1, hR2, hR3, hR4⟩ := g
  intro H locs ls hn ho hP hS hl
  obtain ⟨hd, rfl⟩ := hd
  refine lv_iand hx hb hd ?_
  rw [hz]
  exact k H locs ls hn ho hP hS hl
theorem V.ior {E : Ev} {X : Cx} {cc : ByteArray} {own : String} {d mc ms nc ns n pc q : Nat} {M : Mem} {lc : List (Option Value)} {st : List Value} {x y z : Int32} (g : G0 E X cc own d mc ms) (hd : Dc cc pc 1 q .ior) (hz : x ||| y = z) (k : V E X nc ns n M q lc (.int z :: st)) : V E X nc ns n M pc lc (.int y :: .int x :: st) := by
  obtain ⟨l, D, cy, b0⟩ := E
  obtain ⟨p, e, R, s, m, args, below, meth, c, nL, Q⟩ := X
  obtain ⟨hx, hb, hml, hown, hts, ⟨hK, hAO, hNe⟩, hbs, hR1, hR2, hR3, hR4⟩ := g
  intro H locs ls hn ho hP hS hl
  obtain ⟨hd, rfl⟩ := hd
  refine lv_ior hx hb hd ?_
  rw [hz]
  exact k H locs ls hn ho hP hS hl
theorem V.ixor {E : Ev} {X : Cx} {cc : ByteArray} {own : String} {d mc ms nc ns n pc q : Nat} {M : Mem} {lc : List (Option Value)} {st : List Value} {x y z : Int32} (g : G0 E X cc own d mc ms) (hd : Dc cc pc 1 q .ixor) (hz : x ^^^ y = z) (k : V E X nc ns n M q lc (.int z :: st)) : V E X nc ns n M pc lc (.int y :: .int x :: st) := by
  obtain ⟨l, D, cy, b0⟩ := E
  obtain ⟨p, e, R, s, m, args, below, meth, c, nL, Q⟩ := X
  obtain ⟨hx, hb, hml, hown, hts, ⟨hK, hAO, hNe⟩, hbs, hR1, hR2, hR3, hR4⟩ := g
  intro H locs ls hn ho hP hS hl
  obtain ⟨hd, rfl⟩ := hd
  refine lv_ixor hx hb hd ?_
  rw [hz]
  exact k H locs ls hn ho hP hS hl
theorem V.ishl {E : Ev} {X : Cx} {cc : ByteArray} {own : String} {d mc ms nc ns n pc q : Nat} {M : Mem} {lc : List (Option Value)} {st : List Value} {x y z : Int32} (g : G0 E X cc own d mc ms) (hd : Dc cc pc 1 q .ishl) (hz : x <<< (y &&& 31) = z) (k : V E X nc ns n M q lc (.int z :: st)) : V E X nc ns n M pc lc (.int y :: .int x :: st) := by
  obtain ⟨l, D, cy, b0⟩ := E
  obtain ⟨p, e, R, s, m, args, below, meth, c, nL, Q⟩ := X
  obtain ⟨hx, hb, hml, hown, hts, ⟨hK, hAO, hNe⟩, hbs, hR1, hR2, hR3, hR4⟩ := g
  intro H locs ls hn ho hP hS hl
  obtain ⟨hd, rfl⟩ := hd
  refine lv_ishl hx hb hd ?_
  rw [hz]
  exact k H locs ls hn ho hP hS hl
theorem V.ishr {E : Ev} {X : Cx} {cc : ByteArray} {own : String} {d mc ms nc ns n pc q : Nat} {M : Mem} {lc : List (Option Value)} {st : List Value} {x y z : Int32} (g : G0 E X cc own d mc ms) (hd : Dc cc pc 1 q .ishr) (hz : x >>> (y &&& 31) = z) (k : V E X nc ns n M q lc (.int z :: st)) : V E X nc ns n M pc lc (.int y :: .int x :: st) := by
  obtain ⟨l, D, cy, b0⟩ := E
  obtain ⟨p, e, R, s, m, args, below, meth, c, nL, Q⟩ := X
  obtain ⟨hx, hb, hml, hown, hts, ⟨hK, hAO, hNe⟩, hbs, hR1, hR2, hR3, hR4⟩ := g
  intro H locs ls hn ho hP hS hl
  obtain ⟨hd, rfl⟩ := hd
  refine lv_ishr hx hb hd ?_
  rw [hz]
  exact k H locs ls hn ho hP hS hl
theorem V.i2c {E : Ev} {X : Cx} {cc : ByteArray} {own : String} {d mc ms nc ns n pc q : Nat} {M : Mem} {lc : List (Option Value)} {st : List Value} {x z : Int32} (g : G0 E X cc own d mc ms) (hd : Dc cc pc 1 q .i2c) (hz : (x.toUInt32 % 65536).toInt32 = z) (k : V E X nc ns n M q lc (.int z :: st)) : V E X nc ns n M pc lc (.int x :: st) := by
  obtain ⟨l, D, cy, b0⟩ := E
  obtain ⟨p, e, R, s, m, args, below, meth, c, nL, Q⟩ := X
  obtain ⟨hx, hb, hml, hown, hts, ⟨hK, hAO, hNe⟩, hbs, hR1, hR2, hR3, hR4⟩ := g
  intro H locs ls hn ho hP hS hl
  obtain ⟨hd, rfl⟩ := hd
  exact lv_i2c hx hb hd hz (k H locs ls hn ho hP hS hl)
theorem V.land {E : Ev} {X : Cx} {cc : ByteArray} {own : String} {d mc ms nc ns n pc q : Nat} {M : Mem} {lc : List (Option Value)} {st : List Value} {x y z : Int64} (g : G0 E X cc own d mc ms) (hd : Dc cc pc 1 q .land) (hz : x &&& y = z) (k : V E X nc ns n M q lc (.long z :: st)) : V E X nc ns n M pc lc (.long y :: .long x :: st) := by
  obtain ⟨l, D, cy, b0⟩ := E
  obtain ⟨p, e, R, s, m, args, below, meth, c, nL, Q⟩ := X
  obtain ⟨hx, hb, hml, hown, hts, ⟨hK, hAO, hNe⟩, hbs, hR1, hR2, hR3, hR4⟩ := g
  intro H locs ls hn ho hP hS hl
  obtain ⟨hd, rfl⟩ := hd
  refine lv_land hx hb hd ?_
  rw [hz]
  exact k H locs ls hn ho hP hS hl
theorem V.lxor {E : Ev} {X : Cx} {cc : ByteArray} {own : String} {d mc ms nc ns n pc q : Nat} {M : Mem} {lc : List (Option Value)} {st : List Value} {x y z : Int64} (g : G0 E X cc own d mc ms) (hd : Dc cc pc 1 q .lxor) (hz : x ^^^ y = z) (k : V E X nc ns n M q lc (.long z :: st)) : V E X nc ns n M pc lc (.long y :: .long x :: st) := by
  obtain ⟨l, D, cy, b0⟩ := E
  obtain ⟨p, e, R, s, m, args, below, meth, c, nL, Q⟩ := X
  obtain ⟨hx, hb, hml, hown, hts, ⟨hK, hAO, hNe⟩, hbs, hR1, hR2, hR3, hR4⟩ := g
  intro H locs ls hn ho hP hS hl
  obtain ⟨hd, rfl⟩ := hd
  refine lv_lxor hx hb hd ?_
  rw [hz]
  exact k H locs ls hn ho hP hS hl
theorem V.lshl {E : Ev} {X : Cx} {cc : ByteArray} {own : String} {d mc ms nc ns n pc q : Nat} {M : Mem} {lc : List (Option Value)} {st : List Value} {x z : Int64} {y : Int32} (g : G0 E X cc own d mc ms) (hd : Dc cc pc 1 q .lshl) (hz : x <<< (y.toInt64 &&& 63) = z) (k : V E X nc ns n M q lc (.long z :: st)) : V E X nc ns n M pc lc (.int y :: .long x :: st) := by
  obtain ⟨l, D, cy, b0⟩ := E
  obtain ⟨p, e, R, s, m, args, below, meth, c, nL, Q⟩ := X
  obtain ⟨hx, hb, hml, hown, hts, ⟨hK, hAO, hNe⟩, hbs, hR1, hR2, hR3, hR4⟩ := g
  intro H locs ls hn ho hP hS hl
  obtain ⟨hd, rfl⟩ := hd
  exact lv_lshl hx hb hd hz (k H locs ls hn ho hP hS hl)
theorem V.dup {E : Ev} {X : Cx} {cc : ByteArray} {own : String} {d mc ms nc ns n pc q : Nat} {M : Mem} {lc : List (Option Value)} {st : List Value} {w : Value} (g : G0 E X cc own d mc ms) (hd : Dc cc pc 1 q .dup) (hw : w.category = 1) (k : V E X nc ns n M q lc (w :: w :: st)) : V E X nc ns n M pc lc (w :: st) := by
  obtain ⟨l, D, cy, b0⟩ := E
  obtain ⟨p, e, R, s, m, args, below, meth, c, nL, Q⟩ := X
  obtain ⟨hx, hb, hml, hown, hts, ⟨hK, hAO, hNe⟩, hbs, hR1, hR2, hR3, hR4⟩ := g
  intro H locs ls hn ho hP hS hl
  obtain ⟨hd, rfl⟩ := hd
  exact lv_dup hx hb hd hw (k H locs ls hn ho hP hS hl)
theorem V.pop {E : Ev} {X : Cx} {cc : ByteArray} {own : String} {d mc ms nc ns n pc q : Nat} {M : Mem} {lc : List (Option Value)} {st : List Value} {w : Value} (g : G0 E X cc own d mc ms) (hd : Dc cc pc 1 q .pop) (hw : w.category = 1) (k : V E X nc ns n M q lc st) : V E X nc ns n M pc lc (w :: st) := by
  obtain ⟨l, D, cy, b0⟩ := E
  obtain ⟨p, e, R, s, m, args, below, meth, c, nL, Q⟩ := X
  obtain ⟨hx, hb, hml, hown, hts, ⟨hK, hAO, hNe⟩, hbs, hR1, hR2, hR3, hR4⟩ := g
  intro H locs ls hn ho hP hS hl
  obtain ⟨hd, rfl⟩ := hd
  exact lv_pop hx hb hd hw (k H locs ls hn ho hP hS hl)
theorem V.dup2 {E : Ev} {X : Cx} {cc : ByteArray} {own : String} {d mc ms nc ns n pc q : Nat} {M : Mem} {lc : List (Option Value)} {st : List Value} {w u : Value} (g : G0 E X cc own d mc ms) (hd : Dc cc pc 1 q .dup2) (hw : w.category = 1) (hu : u.category = 1) (k : V E X nc ns n M q lc (w :: u :: w :: u :: st)) : V E X nc ns n M pc lc (w :: u :: st) := by
  obtain ⟨l, D, cy, b0⟩ := E
  obtain ⟨p, e, R, s, m, args, below, meth, c, nL, Q⟩ := X
  obtain ⟨hx, hb, hml, hown, hts, ⟨hK, hAO, hNe⟩, hbs, hR1, hR2, hR3, hR4⟩ := g
  intro H locs ls hn ho hP hS hl
  obtain ⟨hd, rfl⟩ := hd
  exact lv_dup2_11 hx hb hd hw hu (k H locs ls hn ho hP hS hl)
-- CONV
theorem V.ifeq {E : Ev} {X : Cx} {cc : ByteArray} {own : String} {d mc ms nc ns n pc q t : Nat} {M : Mem} {lc : List (Option Value)} {st : List Value} {z : Int} (g : G0 E X cc own d mc ms) (hd : Dj cc pc q t (.ifCond .eq)) (hr : -2147483648 ≤ z ∧ z < 2147483648) (kt : z = 0 → V E X nc ns n M t lc st) (kf : ¬ z = 0 → V E X nc ns n M q lc st) : V E X nc ns n M pc lc (.int (iI z) :: st) := by
  obtain ⟨l, D, cy, b0⟩ := E
  obtain ⟨p, e, R, s, m, args, below, meth, c, nL, Q⟩ := X
  obtain ⟨hx, hb, hml, hown, hts, ⟨hK, hAO, hNe⟩, hbs, hR1, hR2, hR3, hR4⟩ := g
  intro H locs ls hn ho hP hS hl
  obtain ⟨off, hd, rfl, ht⟩ := hd
  have hc := iI_inj (a := z) (b := 0) (by omega)
  rw [iI_0] at hc
  exact lv_if_eq hx hb hd ht (fun z => kt (by rcases hc with ⟨h1, h2⟩; first | exact h1 z | exact fun w => z (h2 w) | (have := Int32.not_lt.mpr z; exact fun w => this (h2 w)) | (have := Int32.not_le.mpr z; exact fun w => this (h2 w))) H locs ls hn ho hP hS hl) (fun z => kf (by rcases hc with ⟨h1, h2⟩; first | exact h1 z | exact fun w => z (h2 w) | exact h1 (Int32.not_le.mp z) | exact h1 (Int32.not_lt.mp z)) H locs ls hn ho hP hS hl)
theorem V.ifne {E : Ev} {X : Cx} {cc : ByteArray} {own : String} {d mc ms nc ns n pc q t : Nat} {M : Mem} {lc : List (Option Value)} {st : List Value} {z : Int} (g : G0 E X cc own d mc ms) (hd : Dj cc pc q t (.ifCond .ne)) (hr : -2147483648 ≤ z ∧ z < 2147483648) (kt : ¬ z = 0 → V E X nc ns n M t lc st) (kf : z = 0 → V E X nc ns n M q lc st) : V E X nc ns n M pc lc (.int (iI z) :: st) := by
  obtain ⟨l, D, cy, b0⟩ := E
  obtain ⟨p, e, R, s, m, args, below, meth, c, nL, Q⟩ := X
  obtain ⟨hx, hb, hml, hown, hts, ⟨hK, hAO, hNe⟩, hbs, hR1, hR2, hR3, hR4⟩ := g
  intro H locs ls hn ho hP hS hl
  obtain ⟨off, hd, rfl, ht⟩ := hd
  have hc := iI_inj (a := z) (b := 0) (by omega)
  rw [iI_0] at hc
  exact lv_if_ne hx hb hd ht (fun z => kt (by rcases hc with ⟨h1, h2⟩; first | exact h1 z | exact fun w => z (h2 w) | (have := Int32.not_lt.mpr z; exact fun w => this (h2 w)) | (have := Int32.not_le.mpr z; exact fun w => this (h2 w))) H locs ls hn ho hP hS hl) (fun z => kf (by rcases hc with ⟨h1, h2⟩; first | exact h1 z | exact fun w => z (h2 w) | exact h1 (Int32.not_le.mp z) | exact h1 (Int32.not_lt.mp z)) H locs ls hn ho hP hS hl)
theorem V.iflt {E : Ev} {X : Cx} {cc : ByteArray} {own : String} {d mc ms nc ns n pc q t : Nat} {M : Mem} {lc : List (Option Value)} {st : List Value} {z : Int} (g : G0 E X cc own d mc ms) (hd : Dj cc pc q t (.ifCond .lt)) (hr : -2147483648 ≤ z ∧ z < 2147483648) (kt : z < 0 → V E X nc ns n M t lc st) (kf : ¬ z < 0 → V E X nc ns n M q lc st) : V E X nc ns n M pc lc (.int (iI z) :: st) := by
  obtain ⟨l, D, cy, b0⟩ := E
  obtain ⟨p, e, R, s, m, args, below, meth, c, nL, Q⟩ := X
  obtain ⟨hx, hb, hml, hown, hts, ⟨hK, hAO, hNe⟩, hbs, hR1, hR2, hR3, hR4⟩ := g
  intro H locs ls hn ho hP hS hl
  obtain ⟨off, hd, rfl, ht⟩ := hd
  have hc := iI_lt (a := z) (b := 0) (by omega)
  rw [iI_0] at hc
  exact lv_if_lt hx hb hd ht (fun z => kt (by rcases hc with ⟨h1, h2⟩; first | exact h1 z | exact fun w => z (h2 w) | (have := Int32.not_lt.mpr z; exact fun w => this (h2 w)) | (have := Int32.not_le.mpr z; exact fun w => this (h2 w))) H locs ls hn ho hP hS hl) (fun z => kf (by rcases hc with ⟨h1, h2⟩; first | exact h1 z | exact fun w => z (h2 w) | exact h1 (Int32.not_le.mp z) | exact h1 (Int32.not_lt.mp z)) H locs ls hn ho hP hS hl)
theorem V.ifge {E : Ev} {X : Cx} {cc : ByteArray} {own : String} {d mc ms nc ns n pc q t : Nat} {M : Mem} {lc : List (Option Value)} {st : List Value} {z : Int} (g : G0 E X cc own d mc ms) (hd : Dj cc pc q t (.ifCond .ge)) (hr : -2147483648 ≤ z ∧ z < 2147483648) (kt : ¬ z < 0 → V E X nc ns n M t lc st) (kf : z < 0 → V E X nc ns n M q lc st) : V E X nc ns n M pc lc (.int (iI z) :: st) := by
  obtain ⟨l, D, cy, b0⟩ := E
  obtain ⟨p, e, R, s, m, args, below, meth, c, nL, Q⟩ := X
  obtain ⟨hx, hb, hml, hown, hts, ⟨hK, hAO, hNe⟩, hbs, hR1, hR2, hR3, hR4⟩ := g
  intro H locs ls hn ho hP hS hl
  obtain ⟨off, hd, rfl, ht⟩ := hd
  have hc := iI_lt (a := z) (b := 0) (by omega)
  rw [iI_0] at hc
  exact lv_if_ge hx hb hd ht (fun z => kt (by rcases hc with ⟨h1, h2⟩; first | exact h1 z | exact fun w => z (h2 w) | (have := Int32.not_lt.mpr z; exact fun w => this (h2 w)) | (have := Int32.not_le.mpr z; exact fun w => this (h2 w))) H locs ls hn ho hP hS hl) (fun z => kf (by rcases hc with ⟨h1, h2⟩; first | exact h1 z | exact fun w => z (h2 w) | exact h1 (Int32.not_le.mp z) | exact h1 (Int32.not_lt.mp z)) H locs ls hn ho hP hS hl)
theorem V.ifgt {E : Ev} {X : Cx} {cc : ByteArray} {own : String} {d mc ms nc ns n pc q t : Nat} {M : Mem} {lc : List (Option Value)} {st : List Value} {z : Int} (g : G0 E X cc own d mc ms) (hd : Dj cc pc q t (.ifCond .gt)) (hr : -2147483648 ≤ z ∧ z < 2147483648) (kt : ¬ z ≤ 0 → V E X nc ns n M t lc st) (kf : z ≤ 0 → V E X nc ns n M q lc st) : V E X nc ns n M pc lc (.int (iI z) :: st) := by
  obtain ⟨l, D, cy, b0⟩ := E
  obtain ⟨p, e, R, s, m, args, below, meth, c, nL, Q⟩ := X
  obtain ⟨hx, hb, hml, hown, hts, ⟨hK, hAO, hNe⟩, hbs, hR1, hR2, hR3, hR4⟩ := g
  intro H locs ls hn ho hP hS hl
  obtain ⟨off, hd, rfl, ht⟩ := hd
  have hc := iI_le (a := z) (b := 0) (by omega)
  rw [iI_0] at hc
  exact lv_if_gt hx hb hd ht (fun z => kt (by rcases hc with ⟨h1, h2⟩; first | exact h1 z | exact fun w => z (h2 w) | (have := Int32.not_lt.mpr z; exact fun w => this (h2 w)) | (have := Int32.not_le.mpr z; exact fun w => this (h2 w))) H locs ls hn ho hP hS hl) (fun z => kf (by rcases hc with ⟨h1, h2⟩; first | exact h1 z | exact fun w => z (h2 w) | exact h1 (Int32.not_le.mp z) | exact h1 (Int32.not_lt.mp z)) H locs ls hn ho hP hS hl)
theorem V.ifle {E : Ev} {X : Cx} {cc : ByteArray} {own : String} {d mc ms nc ns n pc q t : Nat} {M : Mem} {lc : List (Option Value)} {st : List Value} {z : Int} (g : G0 E X cc own d mc ms) (hd : Dj cc pc q t (.ifCond .le)) (hr : -2147483648 ≤ z ∧ z < 2147483648) (kt : z ≤ 0 → V E X nc ns n M t lc st) (kf : ¬ z ≤ 0 → V E X nc ns n M q lc st) : V E X nc ns n M pc lc (.int (iI z) :: st) := by
  obtain ⟨l, D, cy, b0⟩ := E
  obtain ⟨p, e, R, s, m, args, below, meth, c, nL, Q⟩ := X
  obtain ⟨hx, hb, hml, hown, hts, ⟨hK, hAO, hNe⟩, hbs, hR1, hR2, hR3, hR4⟩ := g
  intro H locs ls hn ho hP hS hl
  obtain ⟨off, hd, rfl, ht⟩ := hd
  have hc := iI_le (a := z) (b := 0) (by omega)
  rw [iI_0] at hc
  exact lv_if_le hx hb hd ht (fun z => kt (by rcases hc with ⟨h1, h2⟩; first | exact h1 z | exact fun w => z (h2 w) | (have := Int32.not_lt.mpr z; exact fun w => this (h2 w)) | (have := Int32.not_le.mpr z; exact fun w => this (h2 w))) H locs ls hn ho hP hS hl) (fun z => kf (by rcases hc with ⟨h1, h2⟩; first | exact h1 z | exact fun w => z (h2 w) | exact h1 (Int32.not_le.mp z) | exact h1 (Int32.not_lt.mp z)) H locs ls hn ho hP hS hl)
theorem V.icmpeq {E : Ev} {X : Cx} {cc : ByteArray} {own : String} {d mc ms nc ns n pc q t : Nat} {M : Mem} {lc : List (Option Value)} {st : List Value} {x y : Int} (g : G0 E X cc own d mc ms) (hd : Dj cc pc q t (.if_icmp .eq)) (hr : -2147483648 ≤ x ∧ x < 2147483648 ∧ -2147483648 ≤ y ∧ y < 2147483648) (kt : x = y → V E X nc ns n M t lc st) (kf : ¬ x = y → V E X nc ns n M q lc st) : V E X nc ns n M pc lc (.int (iI y) :: .int (iI x) :: st) := by
  obtain ⟨l, D, cy, b0⟩ := E
  obtain ⟨p, e, R, s, m, args, below, meth, c, nL, Q⟩ := X
  obtain ⟨hx, hb, hml, hown, hts, ⟨hK, hAO, hNe⟩, hbs, hR1, hR2, hR3, hR4⟩ := g
  intro H locs ls hn ho hP hS hl
  obtain ⟨off, hd, rfl, ht⟩ := hd
  have hc := iI_inj hr
  exact lv_icmp_eq hx hb hd ht (fun z => kt (by rcases hc with ⟨h1, h2⟩; first | exact h1 z | exact fun w => z (h2 w) | (have := Int32.not_lt.mpr z; exact fun w => this (h2 w)) | (have := Int32.not_le.mpr z; exact fun w => this (h2 w))) H locs ls hn ho hP hS hl) (fun z => kf (by rcases hc with ⟨h1, h2⟩; first | exact h1 z | exact fun w => z (h2 w) | exact h1 (Int32.not_le.mp z) | exact h1 (Int32.not_lt.mp z)) H locs ls hn ho hP hS hl)
theorem V.icmpne {E : Ev} {X : Cx} {cc : ByteArray} {own : String} {d mc ms nc ns n pc q t : Nat} {M : Mem} {lc : List (Option Value)} {st : List Value} {x y : Int} (g : G0 E X cc own d mc ms) (hd : Dj cc pc q t (.if_icmp .ne)) (hr : -2147483648 ≤ x ∧ x < 2147483648 ∧ -2147483648 ≤ y ∧ y < 2147483648) (kt : ¬ x = y → V E X nc ns n M t lc st) (kf : x = y → V E X nc ns n M q lc st) : V E X nc ns n M pc lc (.int (iI y) :: .int (iI x) :: st) := by
  obtain ⟨l, D, cy, b0⟩ := E
  obtain ⟨p, e, R, s, m, args, below, meth, c, nL, Q⟩ := X
  obtain ⟨hx, hb, hml, hown, hts, ⟨hK, hAO, hNe⟩, hbs, hR1, hR2, hR3, hR4⟩ := g
  intro H locs ls hn ho hP hS hl
  obtain ⟨off, hd, rfl, ht⟩ := hd
  have hc := iI_inj hr
  exact lv_icmp_ne hx hb hd ht (fun z => kt (by rcases hc with ⟨h1, h2⟩; first | exact h1 z | exact fun w => z (h2 w) | (have := Int32.not_lt.mpr z; exact fun w => this (h2 w)) | (have := Int32.not_le.mpr z; exact fun w => this (h2 w))) H locs ls hn ho hP hS hl) (fun z => kf (by rcases hc with ⟨h1, h2⟩; first | exact h1 z | exact fun w => z (h2 w) | exact h1 (Int32.not_le.mp z) | exact h1 (Int32.not_lt.mp z)) H locs ls hn ho hP hS hl)
theorem V.icmplt {E : Ev} {X : Cx} {cc : ByteArray} {own : String} {d mc ms nc ns n pc q t : Nat} {M : Mem} {lc : List (Option Value)} {st : List Value} {x y : Int} (g : G0 E X cc own d mc ms) (hd : Dj cc pc q t (.if_icmp .lt)) (hr : -2147483648 ≤ x ∧ x < 2147483648 ∧ -2147483648 ≤ y ∧ y < 2147483648) (kt : x < y → V E X nc ns n M t lc st) (kf : ¬ x < y → V E X nc ns n M q lc st) : V E X nc ns n M pc lc (.int (iI y) :: .int (iI x) :: st) := by
  obtain ⟨l, D, cy, b0⟩ := E
  obtain ⟨p, e, R, s, m, args, below, meth, c, nL, Q⟩ := X
  obtain ⟨hx, hb, hml, hown, hts, ⟨hK, hAO, hNe⟩, hbs, hR1, hR2, hR3, hR4⟩ := g
  intro H locs ls hn ho hP hS hl
  obtain ⟨off, hd, rfl, ht⟩ := hd
  have hc := iI_lt hr
  exact lv_icmp_lt hx hb hd ht (fun z => kt (by rcases hc with ⟨h1, h2⟩; first | exact h1 z | exact fun w => z (h2 w) | (have := Int32.not_lt.mpr z; exact fun w => this (h2 w)) | (have := Int32.not_le.mpr z; exact fun w => this (h2 w))) H locs ls hn ho hP hS hl) (fun z => kf (by rcases hc with ⟨h1, h2⟩; first | exact h1 z | exact fun w => z (h2 w) | exact h1 (Int32.not_le.mp z) | exact h1 (Int32.not_lt.mp z)) H locs ls hn ho hP hS hl)
theorem V.icmpge {E : Ev} {X : Cx} {cc : ByteArray} {own : String} {d mc ms nc ns n pc q t : Nat} {M : Mem} {lc : List (Option Value)} {st : List Value} {x y : Int} (g : G0 E X cc own d mc ms) (hd : Dj cc pc q t (.if_icmp .ge)) (hr : -2147483648 ≤ x ∧ x < 2147483648 ∧ -2147483648 ≤ y ∧ y < 2147483648) (kt : ¬ x < y → V E X nc ns n M t lc st) (kf : x < y → V E X nc ns n M q lc st) : V E X nc ns n M pc lc (.int (iI y) :: .int (iI x) :: st) := by
  obtain ⟨l, D, cy, b0⟩ := E
  obtain ⟨p, e, R, s, m, args, below, meth, c, nL, Q⟩ := X
  obtain ⟨hx, hb, hml, hown, hts, ⟨hK, hAO, hNe⟩, hbs, hR1, hR2, hR3, hR4⟩ := g
  intro H locs ls hn ho hP hS hl
  obtain ⟨off, hd, rfl, ht⟩ := hd
  have hc := iI_lt hr
  exact lv_icmp_ge hx hb hd ht (fun z => kt (by rcases hc with ⟨h1, h2⟩; first | exact h1 z | exact fun w => z (h2 w) | (have := Int32.not_lt.mpr z; exact fun w => this (h2 w)) | (have := Int32.not_le.mpr z; exact fun w => this (h2 w))) H locs ls hn ho hP hS hl) (fun z => kf (by rcases hc with ⟨h1, h2⟩; first | exact h1 z | exact fun w => z (h2 w) | exact h1 (Int32.not_le.mp z) | exact h1 (Int32.not_lt.mp z)) H locs ls hn ho hP hS hl)
theorem V.icmpgt {E : Ev} {X : Cx} {cc : ByteArray} {own : String} {d mc ms nc ns n pc q t : Nat} {M : Mem} {lc : List (Option Value)} {st : List Value} {x y : Int} (g : G0 E X cc own d mc ms) (hd : Dj cc pc q t (.if_icmp .gt)) (hr : -2147483648 ≤ x ∧ x < 2147483648 ∧ -2147483648 ≤ y ∧ y < 2147483648) (kt : ¬ x ≤ y → V E X nc ns n M t lc st) (kf : x ≤ y → V E X nc ns n M q lc st) : V E X nc ns n M pc lc (.int (iI y) :: .int (iI x) :: st) := by
  obtain ⟨l, D, cy, b0⟩ := E
  obtain ⟨p, e, R, s, m, args, below, meth, c, nL, Q⟩ := X
  obtain ⟨hx, hb, hml, hown, hts, ⟨hK, hAO, hNe⟩, hbs, hR1, hR2, hR3, hR4⟩ := g
  intro H locs ls hn ho hP hS hl
  obtain ⟨off, hd, rfl, ht⟩ := hd
  have hc := iI_le hr
  exact lv_icmp_gt hx hb hd ht (fun z => kt (by rcases hc with ⟨h1, h2⟩; first | exact h1 z | exact fun w => z (h2 w) | (have := Int32.not_lt.mpr z; exact fun w => this (h2 w)) | (have := Int32.not_le.mpr z; exact fun w => this (h2 w))) H locs ls hn ho hP hS hl) (fun z => kf (by rcases hc with ⟨h1, h2⟩; first | exact h1 z | exact fun w => z (h2 w) | exact h1 (Int32.not_le.mp z) | exact h1 (Int32.not_lt.mp z)) H locs ls hn ho hP hS hl)
theorem V.icmple {E : Ev} {X : Cx} {cc : ByteArray} {own : String} {d mc ms nc ns n pc q t : Nat} {M : Mem} {lc : List (Option Value)} {st : List Value} {x y : Int} (g : G0 E X cc own d mc ms) (hd : Dj cc pc q t (.if_icmp .le)) (hr : -2147483648 ≤ x ∧ x < 2147483648 ∧ -2147483648 ≤ y ∧ y < 2147483648) (kt : x ≤ y → V E X nc ns n M t lc st) (kf : ¬ x ≤ y → V E X nc ns n M q lc st) : V E X nc ns n M pc lc (.int (iI y) :: .int (iI x) :: st) := by
  obtain ⟨l, D, cy, b0⟩ := E
  obtain ⟨p, e, R, s, m, args, below, meth, c, nL, Q⟩ := X
  obtain ⟨hx, hb, hml, hown, hts, ⟨hK, hAO, hNe⟩, hbs, hR1, hR2, hR3, hR4⟩ := g
  intro H locs ls hn ho hP hS hl
  obtain ⟨off, hd, rfl, ht⟩ := hd
  have hc := iI_le hr
  exact lv_icmp_le hx hb hd ht (fun z => kt (by rcases hc with ⟨h1, h2⟩; first | exact h1 z | exact fun w => z (h2 w) | (have := Int32.not_lt.mpr z; exact fun w => this (h2 w)) | (have := Int32.not_le.mpr z; exact fun w => this (h2 w))) H locs ls hn ho hP hS hl) (fun z => kf (by rcases hc with ⟨h1, h2⟩; first | exact h1 z | exact fun w => z (h2 w) | exact h1 (Int32.not_le.mp z) | exact h1 (Int32.not_lt.mp z)) H locs ls hn ho hP hS hl)
theorem V.ifeqB {E : Ev} {X : Cx} {cc : ByteArray} {own : String} {d mc ms nc ns n pc q t : Nat} {M : Mem} {lc : List (Option Value)} {st : List Value} {b : Prop} {i : Decidable b} (g : G0 E X cc own d mc ms) (hd : Dj cc pc q t (.ifCond .eq)) (kt : ¬ b → V E X nc ns n M t lc st) (kf : b → V E X nc ns n M q lc st) : V E X nc ns n M pc lc (.int (iI (@bI b i)) :: st) := by
  obtain ⟨l, D, cy, b0⟩ := E
  obtain ⟨p, e, R, s, m, args, below, meth, c, nL, Q⟩ := X
  obtain ⟨hx, hb, hml, hown, hts, ⟨hK, hAO, hNe⟩, hbs, hR1, hR2, hR3, hR4⟩ := g
  intro H locs ls hn ho hP hS hl
  obtain ⟨off, hd, rfl, ht⟩ := hd
  refine lv_if_eq hx hb hd ht (fun z => kt (fun w => ?_) H locs ls hn ho hP hS hl) (fun z => kf (Decidable.byContradiction fun w => ?_) H locs ls hn ho hP hS hl)
  · rw [bI_t w] at z; exact absurd z (by decide)
  · rw [bI_f w] at z; exact z rfl
theorem V.ifneB {E : Ev} {X : Cx} {cc : ByteArray} {own : String} {d mc ms nc ns n pc q t : Nat} {M : Mem} {lc : List (Option Value)} {st : List Value} {b : Prop} {i : Decidable b} (g : G0 E X cc own d mc ms) (hd : Dj cc pc q t (.ifCond .ne)) (kt : b → V E X nc ns n M t lc st) (kf : ¬ b → V E X nc ns n M q lc st) : V E X nc ns n M pc lc (.int (iI (@bI b i)) :: st) := by
  obtain ⟨l, D, cy, b0⟩ := E
  obtain ⟨p, e, R, s, m, args, below, meth, c, nL, Q⟩ := X
  obtain ⟨hx, hb, hml, hown, hts, ⟨hK, hAO, hNe⟩, hbs, hR1, hR2, hR3, hR4⟩ := g
  intro H locs ls hn ho hP hS hl
  obtain ⟨off, hd, rfl, ht⟩ := hd
  refine lv_if_ne hx hb hd ht (fun z => kt (Decidable.byContradiction fun w => ?_) H locs ls hn ho hP hS hl) (fun z => kf (fun w => ?_) H locs ls hn ho hP hS hl)
  · rw [bI_f w] at z; exact z rfl
  · rw [bI_t w] at z; exact absurd z (by decide)
theorem V.goto {E : Ev} {X : Cx} {cc : ByteArray} {own : String} {d mc ms nc ns n pc q t : Nat} {M : Mem} {lc : List (Option Value)} {st : List Value}  (g : G0 E X cc own d mc ms) (hd : Dj cc pc q t .goto) (k : V E X nc ns n M t lc st) : V E X nc ns n M pc lc st := by
  obtain ⟨l, D, cy, b0⟩ := E
  obtain ⟨p, e, R, s, m, args, below, meth, c, nL, Q⟩ := X
  obtain ⟨hx, hb, hml, hown, hts, ⟨hK, hAO, hNe⟩, hbs, hR1, hR2, hR3, hR4⟩ := g
  intro H locs ls hn ho hP hS hl
  obtain ⟨off, hd, rfl, ht⟩ := hd
  exact lv_goto hx hb hd ht (k H locs ls hn ho hP hS hl)
theorem V.ifnull {E : Ev} {X : Cx} {cc : ByteArray} {own : String} {d mc ms nc ns n pc q t : Nat} {M : Mem} {lc : List (Option Value)} {st : List Value} {x : Nat} (g : G0 E X cc own d mc ms) (hd : Dj cc pc q t .ifnull) (k : V E X nc ns n M q lc st) : V E X nc ns n M pc lc (.ref x :: st) := by
  obtain ⟨l, D, cy, b0⟩ := E
  obtain ⟨p, e, R, s, m, args, below, meth, c, nL, Q⟩ := X
  obtain ⟨hx, hb, hml, hown, hts, ⟨hK, hAO, hNe⟩, hbs, hR1, hR2, hR3, hR4⟩ := g
  intro H locs ls hn ho hP hS hl
  obtain ⟨off, hd, rfl, ht⟩ := hd
  exact lv_ifnull hx hb hd (k H locs ls hn ho hP hS hl)
theorem V.ifnullN {E : Ev} {X : Cx} {cc : ByteArray} {own : String} {d mc ms nc ns n pc q t : Nat} {M : Mem} {lc : List (Option Value)} {st : List Value}  (g : G0 E X cc own d mc ms) (hd : Dj cc pc q t .ifnull) (k : V E X nc ns n M t lc st) : V E X nc ns n M pc lc (.null :: st) := by
  obtain ⟨l, D, cy, b0⟩ := E
  obtain ⟨p, e, R, s, m, args, below, meth, c, nL, Q⟩ := X
  obtain ⟨hx, hb, hml, hown, hts, ⟨hK, hAO, hNe⟩, hbs, hR1, hR2, hR3, hR4⟩ := g
  intro H locs ls hn ho hP hS hl
  obtain ⟨off, hd, rfl, ht⟩ := hd
  exact lv_ifnullN hx hb hd ht (k H locs ls hn ho hP hS hl)
theorem V.ifnonnull {E : Ev} {X : Cx} {cc : ByteArray} {own : String} {d mc ms nc ns n pc q t : Nat} {M : Mem} {lc : List (Option Value)} {st : List Value} {x : Nat} (g : G0 E X cc own d mc ms) (hd : Dj cc pc q t .ifnonnull) (k : V E X nc ns n M t lc st) : V E X nc ns n M pc lc (.ref x :: st) := by
  obtain ⟨l, D, cy, b0⟩ := E
  obtain ⟨p, e, R, s, m, args, below, meth, c, nL, Q⟩ := X
  obtain ⟨hx, hb, hml, hown, hts, ⟨hK, hAO, hNe⟩, hbs, hR1, hR2, hR3, hR4⟩ := g
  intro H locs ls hn ho hP hS hl
  obtain ⟨off, hd, rfl, ht⟩ := hd
  exact lv_ifnonnull hx hb hd ht (k H locs ls hn ho hP hS hl)
theorem V.ifnonnullN {E : Ev} {X : Cx} {cc : ByteArray} {own : String} {d mc ms nc ns n pc q t : Nat} {M : Mem} {lc : List (Option Value)} {st : List Value}  (g : G0 E X cc own d mc ms) (hd : Dj cc pc q t .ifnonnull) (k : V E X nc ns n M q lc st) : V E X nc ns n M pc lc (.null :: st) := by
  obtain ⟨l, D, cy, b0⟩ := E
  obtain ⟨p, e, R, s, m, args, below, meth, c, nL, Q⟩ := X
  obtain ⟨hx, hb, hml, hown, hts, ⟨hK, hAO, hNe⟩, hbs, hR1, hR2, hR3, hR4⟩ := g
  intro H locs ls hn ho hP hS hl
  obtain ⟨off, hd, rfl, ht⟩ := hd
  exact lv_ifnonnullN hx hb hd (k H locs ls hn ho hP hS hl)
theorem V.tin {E : Ev} {X : Cx} {cc : ByteArray} {own : String} {d mc ms nc ns n pc q t : Nat} {M : Mem} {lc : List (Option Value)} {st : List Value} {z dflt lo hi off : Int} {offs : Array Int} {len : Nat} (g : G0 E X cc own d mc ms) (hd : decode cc pc = .ok (.tableswitch dflt lo hi offs, len)) (hr : -2147483648 ≤ z ∧ z < 2147483648) (h1 : lo ≤ z) (h2 : z ≤ hi) (ho2 : offs[(z - lo).toNat]? = some off) (ht : (pc : Int) + off = (t : Int)) (k : V E X nc ns n M t lc st) : V E X nc ns n M pc lc (.int (iI z) :: st) := by
  obtain ⟨l, D, cy, b0⟩ := E
  obtain ⟨p, e, R, s, m, args, below, meth, c, nL, Q⟩ := X
  obtain ⟨hx, hb, hml, hown, hts, ⟨hK, hAO, hNe⟩, hbs, hR1, hR2, hR3, hR4⟩ := g
  intro H locs ls hn ho hP hS hl
  exact lv_tableIn hx hb hd (by rw [iI_toInt hr]; omega) (by rw [iI_toInt hr]; omega) (by rw [iI_toInt hr]; exact ho2) ht (k H locs ls hn ho hP hS hl)
theorem V.tout {E : Ev} {X : Cx} {cc : ByteArray} {own : String} {d mc ms nc ns n pc q t : Nat} {M : Mem} {lc : List (Option Value)} {st : List Value} {z dflt lo hi : Int} {offs : Array Int} {len : Nat} (g : G0 E X cc own d mc ms) (hd : decode cc pc = .ok (.tableswitch dflt lo hi offs, len)) (hr : -2147483648 ≤ z ∧ z < 2147483648) (h1 : z < lo ∨ hi < z) (ht : (pc : Int) + dflt = (t : Int)) (k : V E X nc ns n M t lc st) : V E X nc ns n M pc lc (.int (iI z) :: st) := by
  obtain ⟨l, D, cy, b0⟩ := E
  obtain ⟨p, e, R, s, m, args, below, meth, c, nL, Q⟩ := X
  obtain ⟨hx, hb, hml, hown, hts, ⟨hK, hAO, hNe⟩, hbs, hR1, hR2, hR3, hR4⟩ := g
  intro H locs ls hn ho hP hS hl
  exact lv_tableOut hx hb hd (by rw [iI_toInt hr]; exact h1) ht (k H locs ls hn ho hP hS hl)
theorem V.lsw {E : Ev} {X : Cx} {cc : ByteArray} {own : String} {d mc ms nc ns n pc q t : Nat} {M : Mem} {lc : List (Option Value)} {st : List Value} {z dflt off : Int} {ps : Array (Int × Int)} {len : Nat} (g : G0 E X cc own d mc ms) (hd : decode cc pc = .ok (.lookupswitch dflt ps, len)) (hr : -2147483648 ≤ z ∧ z < 2147483648) (hp : (ps.toList.zip (ps.toList.drop 1)).all (fun (a, next) => a.1 < next.1) = true) (ho2 : Op.lookupswitch.offset ps.toList dflt z = off) (ht : (pc : Int) + off = (t : Int)) (k : V E X nc ns n M t lc st) : V E X nc ns n M pc lc (.int (iI z) :: st) := by
  obtain ⟨l, D, cy, b0⟩ := E
  obtain ⟨p, e, R, s, m, args, below, meth, c, nL, Q⟩ := X
  obtain ⟨hx, hb, hml, hown, hts, ⟨hK, hAO, hNe⟩, hbs, hR1, hR2, hR3, hR4⟩ := g
  intro H locs ls hn ho hP hS hl
  exact lv_lookup hx hb hd hp (by rw [iI_toInt hr]; exact ho2) ht (k H locs ls hn ho hP hS hl)
theorem V.il0 {E : Ev} {X : Cx} {cc : ByteArray} {own : String} {d mc ms nc ns n pc q : Nat} {M : Mem} {st : List Value} {r : List (Option Value)} {x : Int32} (g : G0 E X cc own d mc ms) (hd : Dc cc pc 1 q (.iload_n 0)) (k : V E X nc ns n M q (some (.int x) :: r) (.int x :: st)) : V E X nc ns n M pc (some (.int x) :: r) st := V.iload_n g hd rfl k
theorem V.al0 {E : Ev} {X : Cx} {cc : ByteArray} {own : String} {d mc ms nc ns n pc q : Nat} {M : Mem} {st : List Value} {r : List (Option Value)} {x : Nat} (g : G0 E X cc own d mc ms) (hd : Dc cc pc 1 q (.aload_n 0)) (k : V E X nc ns n M q (some (.ref x) :: r) (.ref x :: st)) : V E X nc ns n M pc (some (.ref x) :: r) st := V.aload_n g hd rfl k
theorem V.alN0 {E : Ev} {X : Cx} {cc : ByteArray} {own : String} {d mc ms nc ns n pc q : Nat} {M : Mem} {st : List Value} {r : List (Option Value)}  (g : G0 E X cc own d mc ms) (hd : Dc cc pc 1 q (.aload_n 0)) (k : V E X nc ns n M q (some .null :: r) (.null :: st)) : V E X nc ns n M pc (some .null :: r) st := V.aloadN_n g hd rfl k
theorem V.is0 {E : Ev} {X : Cx} {cc : ByteArray} {own : String} {d mc ms nc ns n pc q : Nat} {M : Mem} {st : List Value} {r : List (Option Value)} {x : Int32} {y : Option Value} (g : G0 E X cc own d mc ms) (hd : Dc cc pc 1 q (.istore_n 0)) (k : V E X nc ns n M q (some (.int x) :: r) st) : V E X nc ns n M pc (y :: r) (.int x :: st) := V.istore_n g hd (show 0 < (y :: r).length by simp only [List.length_cons]; omega) k
theorem V.as0 {E : Ev} {X : Cx} {cc : ByteArray} {own : String} {d mc ms nc ns n pc q : Nat} {M : Mem} {st : List Value} {r : List (Option Value)} {x : Nat} {y : Option Value} (g : G0 E X cc own d mc ms) (hd : Dc cc pc 1 q (.astore_n 0)) (k : V E X nc ns n M q (some (.ref x) :: r) st) : V E X nc ns n M pc (y :: r) (.ref x :: st) := V.astore_n g hd (show 0 < (y :: r).length by simp only [List.length_cons]; omega) k
theorem V.asN0 {E : Ev} {X : Cx} {cc : ByteArray} {own : String} {d mc ms nc ns n pc q : Nat} {M : Mem} {st : List Value} {r : List (Option Value)} {y : Option Value} (g : G0 E X cc own d mc ms) (hd : Dc cc pc 1 q (.astore_n 0)) (k : V E X nc ns n M q (some .null :: r) st) : V E X nc ns n M pc (y :: r) (.null :: st) := V.astoreN_n g hd (show 0 < (y :: r).length by simp only [List.length_cons]; omega) k
theorem V.inc0 {E : Ev} {X : Cx} {cc : ByteArray} {own : String} {d mc ms nc ns n pc q : Nat} {M : Mem} {st : List Value} {r : List (Option Value)} {a z : Int} (g : G0 E X cc own d mc ms) (hd : Dc cc pc 3 q (.iinc 0 z)) (k : V E X nc ns n M q (some (.int (iI (a + z))) :: r) st) : V E X nc ns n M pc (some (.int (iI a)) :: r) st := V.iinc g hd rfl k
theorem V.il1 {E : Ev} {X : Cx} {cc : ByteArray} {own : String} {d mc ms nc ns n pc q : Nat} {M : Mem} {st : List Value} {x0 : Option Value} {r : List (Option Value)} {x : Int32} (g : G0 E X cc own d mc ms) (hd : Dc cc pc 1 q (.iload_n 1)) (k : V E X nc ns n M q (x0 :: some (.int x) :: r) (.int x :: st)) : V E X nc ns n M pc (x0 :: some (.int x) :: r) st := V.iload_n g hd rfl k
theorem V.al1 {E : Ev} {X : Cx} {cc : ByteArray} {own : String} {d mc ms nc ns n pc q : Nat} {M : Mem} {st : List Value} {x0 : Option Value} {r : List (Option Value)} {x : Nat} (g : G0 E X cc own d mc ms) (hd : Dc cc pc 1 q (.aload_n 1)) (k : V E X nc ns n M q (x0 :: some (.ref x) :: r) (.ref x :: st)) : V E X nc ns n M pc (x0 :: some (.ref x) :: r) st := V.aload_n g hd rfl k
theorem V.alN1 {E : Ev} {X : Cx} {cc : ByteArray} {own : String} {d mc ms nc ns n pc q : Nat} {M : Mem} {st : List Value} {x0 : Option Value} {r : List (Option Value)}  (g : G0 E X cc own d mc ms) (hd : Dc cc pc 1 q (.aload_n 1)) (k : V E X nc ns n M q (x0 :: some .null :: r) (.null :: st)) : V E X nc ns n M pc (x0 :: some .null :: r) st := V.aloadN_n g hd rfl k
theorem V.is1 {E : Ev} {X : Cx} {cc : ByteArray} {own : String} {d mc ms nc ns n pc q : Nat} {M : Mem} {st : List Value} {x0 : Option Value} {r : List (Option Value)} {x : Int32} {y : Option Value} (g : G0 E X cc own d mc ms) (hd : Dc cc pc 1 q (.istore_n 1)) (k : V E X nc ns n M q (x0 :: some (.int x) :: r) st) : V E X nc ns n M pc (x0 :: y :: r) (.int x :: st) := V.istore_n g hd (show 1 < (x0 :: y :: r).length by simp only [List.length_cons]; omega) k
theorem V.as1 {E : Ev} {X : Cx} {cc : ByteArray} {own : String} {d mc ms nc ns n pc q : Nat} {M : Mem} {st : List Value} {x0 : Option Value} {r : List (Option Value)} {x : Nat} {y : Option Value} (g : G0 E X cc own d mc ms) (hd : Dc cc pc 1 q (.astore_n 1)) (k : V E X nc ns n M q (x0 :: some (.ref x) :: r) st) : V E X nc ns n M pc (x0 :: y :: r) (.ref x :: st) := V.astore_n g hd (show 1 < (x0 :: y :: r).length by simp only [List.length_cons]; omega) k
theorem V.asN1 {E : Ev} {X : Cx} {cc : ByteArray} {own : String} {d mc ms nc ns n pc q : Nat} {M : Mem} {st : List Value} {x0 : Option Value} {r : List (Option Value)} {y : Option Value} (g : G0 E X cc own d mc ms) (hd : Dc cc pc 1 q (.astore_n 1)) (k : V E X nc ns n M q (x0 :: some .null :: r) st) : V E X nc ns n M pc (x0 :: y :: r) (.null :: st) := V.astoreN_n g hd (show 1 < (x0 :: y :: r).length by simp only [List.length_cons]; omega) k
theorem V.inc1 {E : Ev} {X : Cx} {cc : ByteArray} {own : String} {d mc ms nc ns n pc q : Nat} {M : Mem} {st : List Value} {x0 : Option Value} {r : List (Option Value)} {a z : Int} (g : G0 E X cc own d mc ms) (hd : Dc cc pc 3 q (.iinc 1 z)) (k : V E X nc ns n M q (x0 :: some (.int (iI (a + z))) :: r) st) : V E X nc ns n M pc (x0 :: some (.int (iI a)) :: r) st := V.iinc g hd rfl k
theorem V.il2 {E : Ev} {X : Cx} {cc : ByteArray} {own : String} {d mc ms nc ns n pc q : Nat} {M : Mem} {st : List Value} {x0 x1 : Option Value} {r : List (Option Value)} {x : Int32} (g : G0 E X cc own d mc ms) (hd : Dc cc pc 1 q (.iload_n 2)) (k : V E X nc ns n M q (x0 :: x1 :: some (.int x) :: r) (.int x :: st)) : V E X nc ns n M pc (x0 :: x1 :: some (.int x) :: r) st := V.iload_n g hd rfl k
theorem V.al2 {E : Ev} {X : Cx} {cc : ByteArray} {own : String} {d mc ms nc ns n pc q : Nat} {M : Mem} {st : List Value} {x0 x1 : Option Value} {r : List (Option Value)} {x : Nat} (g : G0 E X cc own d mc ms) (hd : Dc cc pc 1 q (.aload_n 2)) (k : V E X nc ns n M q (x0 :: x1 :: some (.ref x) :: r) (.ref x :: st)) : V E X nc ns n M pc (x0 :: x1 :: some (.ref x) :: r) st := V.aload_n g hd rfl k
theorem V.alN2 {E : Ev} {X : Cx} {cc : ByteArray} {own : String} {d mc ms nc ns n pc q : Nat} {M : Mem} {st : List Value} {x0 x1 : Option Value} {r : List (Option Value)}  (g : G0 E X cc own d mc ms) (hd : Dc cc pc 1 q (.aload_n 2)) (k : V E X nc ns n M q (x0 :: x1 :: some .null :: r) (.null :: st)) : V E X nc ns n M pc (x0 :: x1 :: some .null :: r) st := V.aloadN_n g hd rfl k
theorem V.is2 {E : Ev} {X : Cx} {cc : ByteArray} {own : String} {d mc ms nc ns n pc q : Nat} {M : Mem} {st : List Value} {x0 x1 : Option Value} {r : List (Option Value)} {x : Int32} {y : Option Value} (g : G0 E X cc own d mc ms) (hd : Dc cc pc 1 q (.istore_n 2)) (k : V E X nc ns n M q (x0 :: x1 :: some (.int x) :: r) st) : V E X nc ns n M pc (x0 :: x1 :: y :: r) (.int x :: st) := V.istore_n g hd (show 2 < (x0 :: x1 :: y :: r).length by simp only [List.length_cons]; omega) k
theorem V.as2 {E : Ev} {X : Cx} {cc : ByteArray} {own : String} {d mc ms nc ns n pc q : Nat} {M : Mem} {st : List Value} {x0 x1 : Option Value} {r : List (Option Value)} {x : Nat} {y : Option Value} (g : G0 E X cc own d mc ms) (hd : Dc cc pc 1 q (.astore_n 2)) (k : V E X nc ns n M q (x0 :: x1 :: some (.ref x) :: r) st) : V E X nc ns n M pc (x0 :: x1 :: y :: r) (.ref x :: st) := V.astore_n g hd (show 2 < (x0 :: x1 :: y :: r).length by simp only [List.length_cons]; omega) k
theorem V.asN2 {E : Ev} {X : Cx} {cc : ByteArray} {own : String} {d mc ms nc ns n pc q : Nat} {M : Mem} {st : List Value} {x0 x1 : Option Value} {r : List (Option Value)} {y : Option Value} (g : G0 E X cc own d mc ms) (hd : Dc cc pc 1 q (.astore_n 2)) (k : V E X nc ns n M q (x0 :: x1 :: some .null :: r) st) : V E X nc ns n M pc (x0 :: x1 :: y :: r) (.null :: st) := V.astoreN_n g hd (show 2 < (x0 :: x1 :: y :: r).length by simp only [List.length_cons]; omega) k
theorem V.inc2 {E : Ev} {X : Cx} {cc : ByteArray} {own : String} {d mc ms nc ns n pc q : Nat} {M : Mem} {st : List Value} {x0 x1 : Option Value} {r : List (Option Value)} {a z : Int} (g : G0 E X cc own d mc ms) (hd : Dc cc pc 3 q (.iinc 2 z)) (k : V E X nc ns n M q (x0 :: x1 :: some (.int (iI (a + z))) :: r) st) : V E X nc ns n M pc (x0 :: x1 :: some (.int (iI a)) :: r) st := V.iinc g hd rfl k
theorem V.il3 {E : Ev} {X : Cx} {cc : ByteArray} {own : String} {d mc ms nc ns n pc q : Nat} {M : Mem} {st : List Value} {x0 x1 x2 : Option Value} {r : List (Option Value)} {x : Int32} (g : G0 E X cc own d mc ms) (hd : Dc cc pc 1 q (.iload_n 3)) (k : V E X nc ns n M q (x0 :: x1 :: x2 :: some (.int x) :: r) (.int x :: st)) : V E X nc ns n M pc (x0 :: x1 :: x2 :: some (.int x) :: r) st := V.iload_n g hd rfl k
theorem V.al3 {E : Ev} {X : Cx} {cc : ByteArray} {own : String} {d mc ms nc ns n pc q : Nat} {M : Mem} {st : List Value} {x0 x1 x2 : Option Value} {r : List (Option Value)} {x : Nat} (g : G0 E X cc own d mc ms) (hd : Dc cc pc 1 q (.aload_n 3)) (k : V E X nc ns n M q (x0 :: x1 :: x2 :: some (.ref x) :: r) (.ref x :: st)) : V E X nc ns n M pc (x0 :: x1 :: x2 :: some (.ref x) :: r) st := V.aload_n g hd rfl k
theorem V.alN3 {E : Ev} {X : Cx} {cc : ByteArray} {own : String} {d mc ms nc ns n pc q : Nat} {M : Mem} {st : List Value} {x0 x1 x2 : Option Value} {r : List (Option Value)}  (g : G0 E X cc own d mc ms) (hd : Dc cc pc 1 q (.aload_n 3)) (k : V E X nc ns n M q (x0 :: x1 :: x2 :: some .null :: r) (.null :: st)) : V E X nc ns n M pc (x0 :: x1 :: x2 :: some .null :: r) st := V.aloadN_n g hd rfl k
theorem V.is3 {E : Ev} {X : Cx} {cc : ByteArray} {own : String} {d mc ms nc ns n pc q : Nat} {M : Mem} {st : List Value} {x0 x1 x2 : Option Value} {r : List (Option Value)} {x : Int32} {y : Option Value} (g : G0 E X cc own d mc ms) (hd : Dc cc pc 1 q (.istore_n 3)) (k : V E X nc ns n M q (x0 :: x1 :: x2 :: some (.int x) :: r) st) : V E X nc ns n M pc (x0 :: x1 :: x2 :: y :: r) (.int x :: st) := V.istore_n g hd (show 3 < (x0 :: x1 :: x2 :: y :: r).length by simp only [List.length_cons]; omega) k
theorem V.as3 {E : Ev} {X : Cx} {cc : ByteArray} {own : String} {d mc ms nc ns n pc q : Nat} {M : Mem} {st : List Value} {x0 x1 x2 : Option Value} {r : List (Option Value)} {x : Nat} {y : Option Value} (g : G0 E X cc own d mc ms) (hd : Dc cc pc 1 q (.astore_n 3)) (k : V E X nc ns n M q (x0 :: x1 :: x2 :: some (.ref x) :: r) st) : V E X nc ns n M pc (x0 :: x1 :: x2 :: y :: r) (.ref x :: st) := V.astore_n g hd (show 3 < (x0 :: x1 :: x2 :: y :: r).length by simp only [List.length_cons]; omega) k
theorem V.asN3 {E : Ev} {X : Cx} {cc : ByteArray} {own : String} {d mc ms nc ns n pc q : Nat} {M : Mem} {st : List Value} {x0 x1 x2 : Option Value} {r : List (Option Value)} {y : Option Value} (g : G0 E X cc own d mc ms) (hd : Dc cc pc 1 q (.astore_n 3)) (k : V E X nc ns n M q (x0 :: x1 :: x2 :: some .null :: r) st) : V E X nc ns n M pc (x0 :: x1 :: x2 :: y :: r) (.null :: st) := V.astoreN_n g hd (show 3 < (x0 :: x1 :: x2 :: y :: r).length by simp only [List.length_cons]; omega) k
theorem V.inc3 {E : Ev} {X : Cx} {cc : ByteArray} {own : String} {d mc ms nc ns n pc q : Nat} {M : Mem} {st : List Value} {x0 x1 x2 : Option Value} {r : List (Option Value)} {a z : Int} (g : G0 E X cc own d mc ms) (hd : Dc cc pc 3 q (.iinc 3 z)) (k : V E X nc ns n M q (x0 :: x1 :: x2 :: some (.int (iI (a + z))) :: r) st) : V E X nc ns n M pc (x0 :: x1 :: x2 :: some (.int (iI a)) :: r) st := V.iinc g hd rfl k
theorem V.il4 {E : Ev} {X : Cx} {cc : ByteArray} {own : String} {d mc ms nc ns n pc q : Nat} {M : Mem} {st : List Value} {x0 x1 x2 x3 : Option Value} {r : List (Option Value)} {x : Int32} (g : G0 E X cc own d mc ms) (hd : Dc cc pc 2 q (.iload 4)) (k : V E X nc ns n M q (x0 :: x1 :: x2 :: x3 :: some (.int x) :: r) (.int x :: st)) : V E X nc ns n M pc (x0 :: x1 :: x2 :: x3 :: some (.int x) :: r) st := V.iload g hd rfl k
theorem V.al4 {E : Ev} {X : Cx} {cc : ByteArray} {own : String} {d mc ms nc ns n pc q : Nat} {M : Mem} {st : List Value} {x0 x1 x2 x3 : Option Value} {r : List (Option Value)} {x : Nat} (g : G0 E X cc own d mc ms) (hd : Dc cc pc 2 q (.aload 4)) (k : V E X nc ns n M q (x0 :: x1 :: x2 :: x3 :: some (.ref x) :: r) (.ref x :: st)) : V E X nc ns n M pc (x0 :: x1 :: x2 :: x3 :: some (.ref x) :: r) st := V.aload g hd rfl k
theorem V.alN4 {E : Ev} {X : Cx} {cc : ByteArray} {own : String} {d mc ms nc ns n pc q : Nat} {M : Mem} {st : List Value} {x0 x1 x2 x3 : Option Value} {r : List (Option Value)}  (g : G0 E X cc own d mc ms) (hd : Dc cc pc 2 q (.aload 4)) (k : V E X nc ns n M q (x0 :: x1 :: x2 :: x3 :: some .null :: r) (.null :: st)) : V E X nc ns n M pc (x0 :: x1 :: x2 :: x3 :: some .null :: r) st := V.aloadN g hd rfl k
theorem V.is4 {E : Ev} {X : Cx} {cc : ByteArray} {own : String} {d mc ms nc ns n pc q : Nat} {M : Mem} {st : List Value} {x0 x1 x2 x3 : Option Value} {r : List (Option Value)} {x : Int32} {y : Option Value} (g : G0 E X cc own d mc ms) (hd : Dc cc pc 2 q (.istore 4)) (k : V E X nc ns n M q (x0 :: x1 :: x2 :: x3 :: some (.int x) :: r) st) : V E X nc ns n M pc (x0 :: x1 :: x2 :: x3 :: y :: r) (.int x :: st) := V.istore g hd (show 4 < (x0 :: x1 :: x2 :: x3 :: y :: r).length by simp only [List.length_cons]; omega) k
theorem V.as4 {E : Ev} {X : Cx} {cc : ByteArray} {own : String} {d mc ms nc ns n pc q : Nat} {M : Mem} {st : List Value} {x0 x1 x2 x3 : Option Value} {r : List (Option Value)} {x : Nat} {y : Option Value} (g : G0 E X cc own d mc ms) (hd : Dc cc pc 2 q (.astore 4)) (k : V E X nc ns n M q (x0 :: x1 :: x2 :: x3 :: some (.ref x) :: r) st) : V E X nc ns n M pc (x0 :: x1 :: x2 :: x3 :: y :: r) (.ref x :: st) := V.astore g hd (show 4 < (x0 :: x1 :: x2 :: x3 :: y :: r).length by simp only [List.length_cons]; omega) k
theorem V.asN4 {E : Ev} {X : Cx} {cc : ByteArray} {own : String} {d mc ms nc ns n pc q : Nat} {M : Mem} {st : List Value} {x0 x1 x2 x3 : Option Value} {r : List (Option Value)} {y : Option Value} (g : G0 E X cc own d mc ms) (hd : Dc cc pc 2 q (.astore 4)) (k : V E X nc ns n M q (x0 :: x1 :: x2 :: x3 :: some .null :: r) st) : V E X nc ns n M pc (x0 :: x1 :: x2 :: x3 :: y :: r) (.null :: st) := V.astoreN g hd (show 4 < (x0 :: x1 :: x2 :: x3 :: y :: r).length by simp only [List.length_cons]; omega) k
theorem V.inc4 {E : Ev} {X : Cx} {cc : ByteArray} {own : String} {d mc ms nc ns n pc q : Nat} {M : Mem} {st : List Value} {x0 x1 x2 x3 : Option Value} {r : List (Option Value)} {a z : Int} (g : G0 E X cc own d mc ms) (hd : Dc cc pc 3 q (.iinc 4 z)) (k : V E X nc ns n M q (x0 :: x1 :: x2 :: x3 :: some (.int (iI (a + z))) :: r) st) : V E X nc ns n M pc (x0 :: x1 :: x2 :: x3 :: some (.int (iI a)) :: r) st := V.iinc g hd rfl k
theorem V.il5 {E : Ev} {X : Cx} {cc : ByteArray} {own : String} {d mc ms nc ns n pc q : Nat} {M : Mem} {st : List Value} {x0 x1 x2 x3 x4 : Option Value} {r : List (Option Value)} {x : Int32} (g : G0 E X cc own d mc ms) (hd : Dc cc pc 2 q (.iload 5)) (k : V E X nc ns n M q (x0 :: x1 :: x2 :: x3 :: x4 :: some (.int x) :: r) (.int x :: st)) : V E X nc ns n M pc (x0 :: x1 :: x2 :: x3 :: x4 :: some (.int x) :: r) st := V.iload g hd rfl k
theorem V.al5 {E : Ev} {X : Cx} {cc : ByteArray} {own : String} {d mc ms nc ns n pc q : Nat} {M : Mem} {st : List Value} {x0 x1 x2 x3 x4 : Option Value} {r : List (Option Value)} {x : Nat} (g : G0 E X cc own d mc ms) (hd : Dc cc pc 2 q (.aload 5)) (k : V E X nc ns n M q (x0 :: x1 :: x2 :: x3 :: x4 :: some (.ref x) :: r) (.ref x :: st)) : V E X nc ns n M pc (x0 :: x1 :: x2 :: x3 :: x4 :: some (.ref x) :: r) st := V.aload g hd rfl k
theorem V.alN5 {E : Ev} {X : Cx} {cc : ByteArray} {own : String} {d mc ms nc ns n pc q : Nat} {M : Mem} {st : List Value} {x0 x1 x2 x3 x4 : Option Value} {r : List (Option Value)}  (g : G0 E X cc own d mc ms) (hd : Dc cc pc 2 q (.aload 5)) (k : V E X nc ns n M q (x0 :: x1 :: x2 :: x3 :: x4 :: some .null :: r) (.null :: st)) : V E X nc ns n M pc (x0 :: x1 :: x2 :: x3 :: x4 :: some .null :: r) st := V.aloadN g hd rfl k
theorem V.is5 {E : Ev} {X : Cx} {cc : ByteArray} {own : String} {d mc ms nc ns n pc q : Nat} {M : Mem} {st : List Value} {x0 x1 x2 x3 x4 : Option Value} {r : List (Option Value)} {x : Int32} {y : Option Value} (g : G0 E X cc own d mc ms) (hd : Dc cc pc 2 q (.istore 5)) (k : V E X nc ns n M q (x0 :: x1 :: x2 :: x3 :: x4 :: some (.int x) :: r) st) : V E X nc ns n M pc (x0 :: x1 :: x2 :: x3 :: x4 :: y :: r) (.int x :: st) := V.istore g hd (show 5 < (x0 :: x1 :: x2 :: x3 :: x4 :: y :: r).length by simp only [List.length_cons]; omega) k
theorem V.as5 {E : Ev} {X : Cx} {cc : ByteArray} {own : String} {d mc ms nc ns n pc q : Nat} {M : Mem} {st : List Value} {x0 x1 x2 x3 x4 : Option Value} {r : List (Option Value)} {x : Nat} {y : Option Value} (g : G0 E X cc own d mc ms) (hd : Dc cc pc 2 q (.astore 5)) (k : V E X nc ns n M q (x0 :: x1 :: x2 :: x3 :: x4 :: some (.ref x) :: r) st) : V E X nc ns n M pc (x0 :: x1 :: x2 :: x3 :: x4 :: y :: r) (.ref x :: st) := V.astore g hd (show 5 < (x0 :: x1 :: x2 :: x3 :: x4 :: y :: r).length by simp only [List.length_cons]; omega) k
theorem V.asN5 {E : Ev} {X : Cx} {cc : ByteArray} {own : String} {d mc ms nc ns n pc q : Nat} {M : Mem} {st : List Value} {x0 x1 x2 x3 x4 : Option Value} {r : List (Option Value)} {y : Option Value} (g : G0 E X cc own d mc ms) (hd : Dc cc pc 2 q (.astore 5)) (k : V E X nc ns n M q (x0 :: x1 :: x2 :: x3 :: x4 :: some .null :: r) st) : V E X nc ns n M pc (x0 :: x1 :: x2 :: x3 :: x4 :: y :: r) (.null :: st) := V.astoreN g hd (show 5 < (x0 :: x1 :: x2 :: x3 :: x4 :: y :: r).length by simp only [List.length_cons]; omega) k
theorem V.inc5 {E : Ev} {X : Cx} {cc : ByteArray} {own : String} {d mc ms nc ns n pc q : Nat} {M : Mem} {st : List Value} {x0 x1 x2 x3 x4 : Option Value} {r : List (Option Value)} {a z : Int} (g : G0 E X cc own d mc ms) (hd : Dc cc pc 3 q (.iinc 5 z)) (k : V E X nc ns n M q (x0 :: x1 :: x2 :: x3 :: x4 :: some (.int (iI (a + z))) :: r) st) : V E X nc ns n M pc (x0 :: x1 :: x2 :: x3 :: x4 :: some (.int (iI a)) :: r) st := V.iinc g hd rfl k
theorem V.il6 {E : Ev} {X : Cx} {cc : ByteArray} {own : String} {d mc ms nc ns n pc q : Nat} {M : Mem} {st : List Value} {x0 x1 x2 x3 x4 x5 : Option Value} {r : List (Option Value)} {x : Int32} (g : G0 E X cc own d mc ms) (hd : Dc cc pc 2 q (.iload 6)) (k : V E X nc ns n M q (x0 :: x1 :: x2 :: x3 :: x4 :: x5 :: some (.int x) :: r) (.int x :: st)) : V E X nc ns n M pc (x0 :: x1 :: x2 :: x3 :: x4 :: x5 :: some (.int x) :: r) st := V.iload g hd rfl k
theorem V.al6 {E : Ev} {X : Cx} {cc : ByteArray} {own : String} {d mc ms nc ns n pc q : Nat} {M : Mem} {st : List Value} {x0 x1 x2 x3 x4 x5 : Option Value} {r : List (Option Value)} {x : Nat} (g : G0 E X cc own d mc ms) (hd : Dc cc pc 2 q (.aload 6)) (k : V E X nc ns n M q (x0 :: x1 :: x2 :: x3 :: x4 :: x5 :: some (.ref x) :: r) (.ref x :: st)) : V E X nc ns n M pc (x0 :: x1 :: x2 :: x3 :: x4 :: x5 :: some (.ref x) :: r) st := V.aload g hd rfl k
theorem V.alN6 {E : Ev} {X : Cx} {cc : ByteArray} {own : String} {d mc ms nc ns n pc q : Nat} {M : Mem} {st : List Value} {x0 x1 x2 x3 x4 x5 : Option Value} {r : List (Option Value)}  (g : G0 E X cc own d mc ms) (hd : Dc cc pc 2 q (.aload 6)) (k : V E X nc ns n M q (x0 :: x1 :: x2 :: x3 :: x4 :: x5 :: some .null :: r) (.null :: st)) : V E X nc ns n M pc (x0 :: x1 :: x2 :: x3 :: x4 :: x5 :: some .null :: r) st := V.aloadN g hd rfl k
theorem V.is6 {E : Ev} {X : Cx} {cc : ByteArray} {own : String} {d mc ms nc ns n pc q : Nat} {M : Mem} {st : List Value} {x0 x1 x2 x3 x4 x5 : Option Value} {r : List (Option Value)} {x : Int32} {y : Option Value} (g : G0 E X cc own d mc ms) (hd : Dc cc pc 2 q (.istore 6)) (k : V E X nc ns n M q (x0 :: x1 :: x2 :: x3 :: x4 :: x5 :: some (.int x) :: r) st) : V E X nc ns n M pc (x0 :: x1 :: x2 :: x3 :: x4 :: x5 :: y :: r) (.int x :: st) := V.istore g hd (show 6 < (x0 :: x1 :: x2 :: x3 :: x4 :: x5 :: y :: r).length by simp only [List.length_cons]; omega) k
theorem V.as6 {E : Ev} {X : Cx} {cc : ByteArray} {own : String} {d mc ms nc ns n pc q : Nat} {M : Mem} {st : List Value} {x0 x1 x2 x3 x4 x5 : Option Value} {r : List (Option Value)} {x : Nat} {y : Option Value} (g : G0 E X cc own d mc ms) (hd : Dc cc pc 2 q (.astore 6)) (k : V E X nc ns n M q (x0 :: x1 :: x2 :: x3 :: x4 :: x5 :: some (.ref x) :: r) st) : V E X nc ns n M pc (x0 :: x1 :: x2 :: x3 :: x4 :: x5 :: y :: r) (.ref x :: st) := V.astore g hd (show 6 < (x0 :: x1 :: x2 :: x3 :: x4 :: x5 :: y :: r).length by simp only [List.length_cons]; omega) k
theorem V.asN6 {E : Ev} {X : Cx} {cc : ByteArray} {own : String} {d mc ms nc ns n pc q : Nat} {M : Mem} {st : List Value} {x0 x1 x2 x3 x4 x5 : Option Value} {r : List (Option Value)} {y : Option Value} (g : G0 E X cc own d mc ms) (hd : Dc cc pc 2 q (.astore 6)) (k : V E X nc ns n M q (x0 :: x1 :: x2 :: x3 :: x4 :: x5 :: some .null :: r) st) : V E X nc ns n M pc (x0 :: x1 :: x2 :: x3 :: x4 :: x5 :: y :: r) (.null :: st) := V.astoreN g hd (show 6 < (x0 :: x1 :: x2 :: x3 :: x4 :: x5 :: y :: r).length by simp only [List.length_cons]; omega) k
theorem V.inc6 {E : Ev} {X : Cx} {cc : ByteArray} {own : String} {d mc ms nc ns n pc q : Nat} {M : Mem} {st : List Value} {x0 x1 x2 x3 x4 x5 : Option Value} {r : List (Option Value)} {a z : Int} (g : G0 E X cc own d mc ms) (hd : Dc cc pc 3 q (.iinc 6 z)) (k : V E X nc ns n M q (x0 :: x1 :: x2 :: x3 :: x4 :: x5 :: some (.int (iI (a + z))) :: r) st) : V E X nc ns n M pc (x0 :: x1 :: x2 :: x3 :: x4 :: x5 :: some (.int (iI a)) :: r) st := V.iinc g hd rfl k
theorem V.il7 {E : Ev} {X : Cx} {cc : ByteArray} {own : String} {d mc ms nc ns n pc q : Nat} {M : Mem} {st : List Value} {x0 x1 x2 x3 x4 x5 x6 : Option Value} {r : List (Option Value)} {x : Int32} (g : G0 E X cc own d mc ms) (hd : Dc cc pc 2 q (.iload 7)) (k : V E X nc ns n M q (x0 :: x1 :: x2 :: x3 :: x4 :: x5 :: x6 :: some (.int x) :: r) (.int x :: st)) : V E X nc ns n M pc (x0 :: x1 :: x2 :: x3 :: x4 :: x5 :: x6 :: some (.int x) :: r) st := V.iload g hd rfl k
theorem V.al7 {E : Ev} {X : Cx} {cc : ByteArray} {own : String} {d mc ms nc ns n pc q : Nat} {M : Mem} {st : List Value} {x0 x1 x2 x3 x4 x5 x6 : Option Value} {r : List (Option Value)} {x : Nat} (g : G0 E X cc own d mc ms) (hd : Dc cc pc 2 q (.aload 7)) (k : V E X nc ns n M q (x0 :: x1 :: x2 :: x3 :: x4 :: x5 :: x6 :: some (.ref x) :: r) (.ref x :: st)) : V E X nc ns n M pc (x0 :: x1 :: x2 :: x3 :: x4 :: x5 :: x6 :: some (.ref x) :: r) st := V.aload g hd rfl k
theorem V.alN7 {E : Ev} {X : Cx} {cc : ByteArray} {own : String} {d mc ms nc ns n pc q : Nat} {M : Mem} {st : List Value} {x0 x1 x2 x3 x4 x5 x6 : Option Value} {r : List (Option Value)}  (g : G0 E X cc own d mc ms) (hd : Dc cc pc 2 q (.aload 7)) (k : V E X nc ns n M q (x0 :: x1 :: x2 :: x3 :: x4 :: x5 :: x6 :: some .null :: r) (.null :: st)) : V E X nc ns n M pc (x0 :: x1 :: x2 :: x3 :: x4 :: x5 :: x6 :: some .null :: r) st := V.aloadN g hd rfl k
theorem V.is7 {E : Ev} {X : Cx} {cc : ByteArray} {own : String} {d mc ms nc ns n pc q : Nat} {M : Mem} {st : List Value} {x0 x1 x2 x3 x4 x5 x6 : Option Value} {r : List (Option Value)} {x : Int32} {y : Option Value} (g : G0 E X cc own d mc ms) (hd : Dc cc pc 2 q (.istore 7)) (k : V E X nc ns n M q (x0 :: x1 :: x2 :: x3 :: x4 :: x5 :: x6 :: some (.int x) :: r) st) : V E X nc ns n M pc (x0 :: x1 :: x2 :: x3 :: x4 :: x5 :: x6 :: y :: r) (.int x :: st) := V.istore g hd (show 7 < (x0 :: x1 :: x2 :: x3 :: x4 :: x5 :: x6 :: y :: r).length by simp only [List.length_cons]; omega) k
theorem V.as7 {E : Ev} {X : Cx} {cc : ByteArray} {own : String} {d mc ms nc ns n pc q : Nat} {M : Mem} {st : List Value} {x0 x1 x2 x3 x4 x5 x6 : Option Value} {r : List (Option Value)} {x : Nat} {y : Option Value} (g : G0 E X cc own d mc ms) (hd : Dc cc pc 2 q (.astore 7)) (k : V E X nc ns n M q (x0 :: x1 :: x2 :: x3 :: x4 :: x5 :: x6 :: some (.ref x) :: r) st) : V E X nc ns n M pc (x0 :: x1 :: x2 :: x3 :: x4 :: x5 :: x6 :: y :: r) (.ref x :: st) := V.astore g hd (show 7 < (x0 :: x1 :: x2 :: x3 :: x4 :: x5 :: x6 :: y :: r).length by simp only [List.length_cons]; omega) k
theorem V.asN7 {E : Ev} {X : Cx} {cc : ByteArray} {own : String} {d mc ms nc ns n pc q : Nat} {M : Mem} {st : List Value} {x0 x1 x2 x3 x4 x5 x6 : Option Value} {r : List (Option Value)} {y : Option Value} (g : G0 E X cc own d mc ms) (hd : Dc cc pc 2 q (.astore 7)) (k : V E X nc ns n M q (x0 :: x1 :: x2 :: x3 :: x4 :: x5 :: x6 :: some .null :: r) st) : V E X nc ns n M pc (x0 :: x1 :: x2 :: x3 :: x4 :: x5 :: x6 :: y :: r) (.null :: st) := V.astoreN g hd (show 7 < (x0 :: x1 :: x2 :: x3 :: x4 :: x5 :: x6 :: y :: r).length by simp only [List.length_cons]; omega) k
theorem V.inc7 {E : Ev} {X : Cx} {cc : ByteArray} {own : String} {d mc ms nc ns n pc q : Nat} {M : Mem} {st : List Value} {x0 x1 x2 x3 x4 x5 x6 : Option Value} {r : List (Option Value)} {a z : Int} (g : G0 E X cc own d mc ms) (hd : Dc cc pc 3 q (.iinc 7 z)) (k : V E X nc ns n M q (x0 :: x1 :: x2 :: x3 :: x4 :: x5 :: x6 :: some (.int (iI (a + z))) :: r) st) : V E X nc ns n M pc (x0 :: x1 :: x2 :: x3 :: x4 :: x5 :: x6 :: some (.int (iI a)) :: r) st := V.iinc g hd rfl k
theorem V.il8 {E : Ev} {X : Cx} {cc : ByteArray} {own : String} {d mc ms nc ns n pc q : Nat} {M : Mem} {st : List Value} {x0 x1 x2 x3 x4 x5 x6 x7 : Option Value} {r : List (Option Value)} {x : Int32} (g : G0 E X cc own d mc ms) (hd : Dc cc pc 2 q (.iload 8)) (k : V E X nc ns n M q (x0 :: x1 :: x2 :: x3 :: x4 :: x5 :: x6 :: x7 :: some (.int x) :: r) (.int x :: st)) : V E X nc ns n M pc (x0 :: x1 :: x2 :: x3 :: x4 :: x5 :: x6 :: x7 :: some (.int x) :: r) st := V.iload g hd rfl k
theorem V.al8 {E : Ev} {X : Cx} {cc : ByteArray} {own : String} {d mc ms nc ns n pc q : Nat} {M : Mem} {st : List Value} {x0 x1 x2 x3 x4 x5 x6 x7 : Option Value} {r : List (Option Value)} {x : Nat} (g : G0 E X cc own d mc ms) (hd : Dc cc pc 2 q (.aload 8)) (k : V E X nc ns n M q (x0 :: x1 :: x2 :: x3 :: x4 :: x5 :: x6 :: x7 :: some (.ref x) :: r) (.ref x :: st)) : V E X nc ns n M pc (x0 :: x1 :: x2 :: x3 :: x4 :: x5 :: x6 :: x7 :: some (.ref x) :: r) st := V.aload g hd rfl k
theorem V.alN8 {E : Ev} {X : Cx} {cc : ByteArray} {own : String} {d mc ms nc ns n pc q : Nat} {M : Mem} {st : List Value} {x0 x1 x2 x3 x4 x5 x6 x7 : Option Value} {r : List (Option Value)}  (g : G0 E X cc own d mc ms) (hd : Dc cc pc 2 q (.aload 8)) (k : V E X nc ns n M q (x0 :: x1 :: x2 :: x3 :: x4 :: x5 :: x6 :: x7 :: some .null :: r) (.null :: st)) : V E X nc ns n M pc (x0 :: x1 :: x2 :: x3 :: x4 :: x5 :: x6 :: x7 :: some .null :: r) st := V.aloadN g hd rfl k
theorem V.is8 {E : Ev} {X : Cx} {cc : ByteArray} {own : String} {d mc ms nc ns n pc q : Nat} {M : Mem} {st : List Value} {x0 x1 x2 x3 x4 x5 x6 x7 : Option Value} {r : List (Option Value)} {x : Int32} {y : Option Value} (g : G0 E X cc own d mc ms) (hd : Dc cc pc 2 q (.istore 8)) (k : V E X nc ns n M q (x0 :: x1 :: x2 :: x3 :: x4 :: x5 :: x6 :: x7 :: some (.int x) :: r) st) : V E X nc ns n M pc (x0 :: x1 :: x2 :: x3 :: x4 :: x5 :: x6 :: x7 :: y :: r) (.int x :: st) := V.istore g hd (show 8 < (x0 :: x1 :: x2 :: x3 :: x4 :: x5 :: x6 :: x7 :: y :: r).length by simp only [List.length_cons]; omega) k
theorem V.as8 {E : Ev} {X : Cx} {cc : ByteArray} {own : String} {d mc ms nc ns n pc q : Nat} {M : Mem} {st : List Value} {x0 x1 x2 x3 x4 x5 x6 x7 : Option Value} {r : List (Option Value)} {x : Nat} {y : Option Value} (g : G0 E X cc own d mc ms) (hd : Dc cc pc 2 q (.astore 8)) (k : V E X nc ns n M q (x0 :: x1 :: x2 :: x3 :: x4 :: x5 :: x6 :: x7 :: some (.ref x) :: r) st) : V E X nc ns n M pc (x0 :: x1 :: x2 :: x3 :: x4 :: x5 :: x6 :: x7 :: y :: r) (.ref x :: st) := V.astore g hd (show 8 < (x0 :: x1 :: x2 :: x3 :: x4 :: x5 :: x6 :: x7 :: y :: r).length by simp only [List.length_cons]; omega) k
theorem V.asN8 {E : Ev} {X : Cx} {cc : ByteArray} {own : String} {d mc ms nc ns n pc q : Nat} {M : Mem} {st : List Value} {x0 x1 x2 x3 x4 x5 x6 x7 : Option Value} {r : List (Option Value)} {y : Option Value} (g : G0 E X cc own d mc ms) (hd : Dc cc pc 2 q (.astore 8)) (k : V E X nc ns n M q (x0 :: x1 :: x2 :: x3 :: x4 :: x5 :: x6 :: x7 :: some .null :: r) st) : V E X nc ns n M pc (x0 :: x1 :: x2 :: x3 :: x4 :: x5 :: x6 :: x7 :: y :: r) (.null :: st) := V.astoreN g hd (show 8 < (x0 :: x1 :: x2 :: x3 :: x4 :: x5 :: x6 :: x7 :: y :: r).length by simp only [List.length_cons]; omega) k
theorem V.inc8 {E : Ev} {X : Cx} {cc : ByteArray} {own : String} {d mc ms nc ns n pc q : Nat} {M : Mem} {st : List Value} {x0 x1 x2 x3 x4 x5 x6 x7 : Option Value} {r : List (Option Value)} {a z : Int} (g : G0 E X cc own d mc ms) (hd : Dc cc pc 3 q (.iinc 8 z)) (k : V E X nc ns n M q (x0 :: x1 :: x2 :: x3 :: x4 :: x5 :: x6 :: x7 :: some (.int (iI (a + z))) :: r) st) : V E X nc ns n M pc (x0 :: x1 :: x2 :: x3 :: x4 :: x5 :: x6 :: x7 :: some (.int (iI a)) :: r) st := V.iinc g hd rfl k
theorem V.il9 {E : Ev} {X : Cx} {cc : ByteArray} {own : String} {d mc ms nc ns n pc q : Nat} {M : Mem} {st : List Value} {x0 x1 x2 x3 x4 x5 x6 x7 x8 : Option Value} {r : List (Option Value)} {x : Int32} (g : G0 E X cc own d mc ms) (hd : Dc cc pc 2 q (.iload 9)) (k : V E X nc ns n M q (x0 :: x1 :: x2 :: x3 :: x4 :: x5 :: x6 :: x7 :: x8 :: some (.int x) :: r) (.int x :: st)) : V E X nc ns n M pc (x0 :: x1 :: x2 :: x3 :: x4 :: x5 :: x6 :: x7 :: x8 :: some (.int x) :: r) st := V.iload g hd rfl k
theorem V.al9 {E : Ev} {X : Cx} {cc : ByteArray} {own : String} {d mc ms nc ns n pc q : Nat} {M : Mem} {st : List Value} {x0 x1 x2 x3 x4 x5 x6 x7 x8 : Option Value} {r : List (Option Value)} {x : Nat} (g : G0 E X cc own d mc ms) (hd : Dc cc pc 2 q (.aload 9)) (k : V E X nc ns n M q (x0 :: x1 :: x2 :: x3 :: x4 :: x5 :: x6 :: x7 :: x8 :: some (.ref x) :: r) (.ref x :: st)) : V E X nc ns n M pc (x0 :: x1 :: x2 :: x3 :: x4 :: x5 :: x6 :: x7 :: x8 :: some (.ref x) :: r) st := V.aload g hd rfl k
theorem V.alN9 {E : Ev} {X : Cx} {cc : ByteArray} {own : String} {d mc ms nc ns n pc q : Nat} {M : Mem} {st : List Value} {x0 x1 x2 x3 x4 x5 x6 x7 x8 : Option Value} {r : List (Option Value)}  (g : G0 E X cc own d mc ms) (hd : Dc cc pc 2 q (.aload 9)) (k : V E X nc ns n M q (x0 :: x1 :: x2 :: x3 :: x4 :: x5 :: x6 :: x7 :: x8 :: some .null :: r) (.null :: st)) : V E X nc ns n M pc (x0 :: x1 :: x2 :: x3 :: x4 :: x5 :: x6 :: x7 :: x8 :: some .null :: r) st := V.aloadN g hd rfl k
theorem V.is9 {E : Ev} {X : Cx} {cc : ByteArray} {own : String} {d mc ms nc ns n pc q : Nat} {M : Mem} {st : List Value} {x0 x1 x2 x3 x4 x5 x6 x7 x8 : Option Value} {r : List (Option Value)} {x : Int32} {y : Option Value} (g : G0 E X cc own d mc ms) (hd : Dc cc pc 2 q (.istore 9)) (k : V E X nc ns n M q (x0 :: x1 :: x2 :: x3 :: x4 :: x5 :: x6 :: x7 :: x8 :: some (.int x) :: r) st) : V E X nc ns n M pc (x0 :: x1 :: x2 :: x3 :: x4 :: x5 :: x6 :: x7 :: x8 :: y :: r) (.int x :: st) := V.istore g hd (show 9 < (x0 :: x1 :: x2 :: x3 :: x4 :: x5 :: x6 :: x7 :: x8 :: y :: r).length by simp only [List.length_cons]; omega) k
theorem V.as9 {E : Ev} {X : Cx} {cc : ByteArray} {own : String} {d mc ms nc ns n pc q : Nat} {M : Mem} {st : List Value} {x0 x1 x2 x3 x4 x5 x6 x7 x8 : Option Value} {r : List (Option Value)} {x : Nat} {y : Option Value} (g : G0 E X cc own d mc ms) (hd : Dc cc pc 2 q (.astore 9)) (k : V E X nc ns n M q (x0 :: x1 :: x2 :: x3 :: x4 :: x5 :: x6 :: x7 :: x8 :: some (.ref x) :: r) st) : V E X nc ns n M pc (x0 :: x1 :: x2 :: x3 :: x4 :: x5 :: x6 :: x7 :: x8 :: y :: r) (.ref x :: st) := V.astore g hd (show 9 < (x0 :: x1 :: x2 :: x3 :: x4 :: x5 :: x6 :: x7 :: x8 :: y :: r).length by simp only [List.length_cons]; omega) k
theorem V.asN9 {E : Ev} {X : Cx} {cc : ByteArray} {own : String} {d mc ms nc ns n pc q : Nat} {M : Mem} {st : List Value} {x0 x1 x2 x3 x4 x5 x6 x7 x8 : Option Value} {r : List (Option Value)} {y : Option Value} (g : G0 E X cc own d mc ms) (hd : Dc cc pc 2 q (.astore 9)) (k : V E X nc ns n M q (x0 :: x1 :: x2 :: x3 :: x4 :: x5 :: x6 :: x7 :: x8 :: some .null :: r) st) : V E X nc ns n M pc (x0 :: x1 :: x2 :: x3 :: x4 :: x5 :: x6 :: x7 :: x8 :: y :: r) (.null :: st) := V.astoreN g hd (show 9 < (x0 :: x1 :: x2 :: x3 :: x4 :: x5 :: x6 :: x7 :: x8 :: y :: r).length by simp only [List.length_cons]; omega) k
theorem V.inc9 {E : Ev} {X : Cx} {cc : ByteArray} {own : String} {d mc ms nc ns n pc q : Nat} {M : Mem} {st : List Value} {x0 x1 x2 x3 x4 x5 x6 x7 x8 : Option Value} {r : List (Option Value)} {a z : Int} (g : G0 E X cc own d mc ms) (hd : Dc cc pc 3 q (.iinc 9 z)) (k : V E X nc ns n M q (x0 :: x1 :: x2 :: x3 :: x4 :: x5 :: x6 :: x7 :: x8 :: some (.int (iI (a + z))) :: r) st) : V E X nc ns n M pc (x0 :: x1 :: x2 :: x3 :: x4 :: x5 :: x6 :: x7 :: x8 :: some (.int (iI a)) :: r) st := V.iinc g hd rfl k
theorem V.il10 {E : Ev} {X : Cx} {cc : ByteArray} {own : String} {d mc ms nc ns n pc q : Nat} {M : Mem} {st : List Value} {x0 x1 x2 x3 x4 x5 x6 x7 x8 x9 : Option Value} {r : List (Option Value)} {x : Int32} (g : G0 E X cc own d mc ms) (hd : Dc cc pc 2 q (.iload 10)) (k : V E X nc ns n M q (x0 :: x1 :: x2 :: x3 :: x4 :: x5 :: x6 :: x7 :: x8 :: x9 :: some (.int x) :: r) (.int x :: st)) : V E X nc ns n M pc (x0 :: x1 :: x2 :: x3 :: x4 :: x5 :: x6 :: x7 :: x8 :: x9 :: some (.int x) :: r) st := V.iload g hd rfl k
theorem V.al10 {E : Ev} {X : Cx} {cc : ByteArray} {own : String} {d mc ms nc ns n pc q : Nat} {M : Mem} {st : List Value} {x0 x1 x2 x3 x4 x5 x6 x7 x8 x9 : Option Value} {r : List (Option Value)} {x : Nat} (g : G0 E X cc own d mc ms) (hd : Dc cc pc 2 q (.aload 10)) (k : V E X nc ns n M q (x0 :: x1 :: x2 :: x3 :: x4 :: x5 :: x6 :: x7 :: x8 :: x9 :: some (.ref x) :: r) (.ref x :: st)) : V E X nc ns n M pc (x0 :: x1 :: x2 :: x3 :: x4 :: x5 :: x6 :: x7 :: x8 :: x9 :: some (.ref x) :: r) st := V.aload g hd rfl k
theorem V.alN10 {E : Ev} {X : Cx} {cc : ByteArray} {own : String} {d mc ms nc ns n pc q : Nat} {M : Mem} {st : List Value} {x0 x1 x2 x3 x4 x5 x6 x7 x8 x9 : Option Value} {r : List (Option Value)}  (g : G0 E X cc own d mc ms) (hd : Dc cc pc 2 q (.aload 10)) (k : V E X nc ns n M q (x0 :: x1 :: x2 :: x3 :: x4 :: x5 :: x6 :: x7 :: x8 :: x9 :: some .null :: r) (.null :: st)) : V E X nc ns n M pc (x0 :: x1 :: x2 :: x3 :: x4 :: x5 :: x6 :: x7 :: x8 :: x9 :: some .null :: r) st := V.aloadN g hd rfl k
theorem V.is10 {E : Ev} {X : Cx} {cc : ByteArray} {own : String} {d mc ms nc ns n pc q : Nat} {M : Mem} {st : List Value} {x0 x1 x2 x3 x4 x5 x6 x7 x8 x9 : Option Value} {r : List (Option Value)} {x : Int32} {y : Option Value} (g : G0 E X cc own d mc ms) (hd : Dc cc pc 2 q (.istore 10)) (k : V E X nc ns n M q (x0 :: x1 :: x2 :: x3 :: x4 :: x5 :: x6 :: x7 :: x8 :: x9 :: some (.int x) :: r) st) : V E X nc ns n M pc (x0 :: x1 :: x2 :: x3 :: x4 :: x5 :: x6 :: x7 :: x8 :: x9 :: y :: r) (.int x :: st) := V.istore g hd (show 10 < (x0 :: x1 :: x2 :: x3 :: x4 :: x5 :: x6 :: x7 :: x8 :: x9 :: y :: r).length by simp only [List.length_cons]; omega) k
theorem V.as10 {E : Ev} {X : Cx} {cc : ByteArray} {own : String} {d mc ms nc ns n pc q : Nat} {M : Mem} {st : List Value} {x0 x1 x2 x3 x4 x5 x6 x7 x8 x9 : Option Value} {r : List (Option Value)} {x : Nat} {y : Option Value} (g : G0 E X cc own d mc ms) (hd : Dc cc pc 2 q (.astore 10)) (k : V E X nc ns n M q (x0 :: x1 :: x2 :: x3 :: x4 :: x5 :: x6 :: x7 :: x8 :: x9 :: some (.ref x) :: r) st) : V E X nc ns n M pc (x0 :: x1 :: x2 :: x3 :: x4 :: x5 :: x6 :: x7 :: x8 :: x9 :: y :: r) (.ref x :: st) := V.astore g hd (show 10 < (x0 :: x1 :: x2 :: x3 :: x4 :: x5 :: x6 :: x7 :: x8 :: x9 :: y :: r).length by simp only [List.length_cons]; omega) k
theorem V.asN10 {E : Ev} {X : Cx} {cc : ByteArray} {own : String} {d mc ms nc ns n pc q : Nat} {M : Mem} {st : List Value} {x0 x1 x2 x3 x4 x5 x6 x7 x8 x9 : Option Value} {r : List (Option Value)} {y : Option Value} (g : G0 E X cc own d mc ms) (hd : Dc cc pc 2 q (.astore 10)) (k : V E X nc ns n M q (x0 :: x1 :: x2 :: x3 :: x4 :: x5 :: x6 :: x7 :: x8 :: x9 :: some .null :: r) st) : V E X nc ns n M pc (x0 :: x1 :: x2 :: x3 :: x4 :: x5 :: x6 :: x7 :: x8 :: x9 :: y :: r) (.null :: st) := V.astoreN g hd (show 10 < (x0 :: x1 :: x2 :: x3 :: x4 :: x5 :: x6 :: x7 :: x8 :: x9 :: y :: r).length by simp only [List.length_cons]; omega) k
theorem V.inc10 {E : Ev} {X : Cx} {cc : ByteArray} {own : String} {d mc ms nc ns n pc q : Nat} {M : Mem} {st : List Value} {x0 x1 x2 x3 x4 x5 x6 x7 x8 x9 : Option Value} {r : List (Option Value)} {a z : Int} (g : G0 E X cc own d mc ms) (hd : Dc cc pc 3 q (.iinc 10 z)) (k : V E X nc ns n M q (x0 :: x1 :: x2 :: x3 :: x4 :: x5 :: x6 :: x7 :: x8 :: x9 :: some (.int (iI (a + z))) :: r) st) : V E X nc ns n M pc (x0 :: x1 :: x2 :: x3 :: x4 :: x5 :: x6 :: x7 :: x8 :: x9 :: some (.int (iI a)) :: r) st := V.iinc g hd rfl k
theorem V.il11 {E : Ev} {X : Cx} {cc : ByteArray} {own : String} {d mc ms nc ns n pc q : Nat} {M : Mem} {st : List Value} {x0 x1 x2 x3 x4 x5 x6 x7 x8 x9 x10 : Option Value} {r : List (Option Value)} {x : Int32} (g : G0 E X cc own d mc ms) (hd : Dc cc pc 2 q (.iload 11)) (k : V E X nc ns n M q (x0 :: x1 :: x2 :: x3 :: x4 :: x5 :: x6 :: x7 :: x8 :: x9 :: x10 :: some (.int x) :: r) (.int x :: st)) : V E X nc ns n M pc (x0 :: x1 :: x2 :: x3 :: x4 :: x5 :: x6 :: x7 :: x8 :: x9 :: x10 :: some (.int x) :: r) st := V.iload g hd rfl k
theorem V.al11 {E : Ev} {X : Cx} {cc : ByteArray} {own : String} {d mc ms nc ns n pc q : Nat} {M : Mem} {st : List Value} {x0 x1 x2 x3 x4 x5 x6 x7 x8 x9 x10 : Option Value} {r : List (Option Value)} {x : Nat} (g : G0 E X cc own d mc ms) (hd : Dc cc pc 2 q (.aload 11)) (k : V E X nc ns n M q (x0 :: x1 :: x2 :: x3 :: x4 :: x5 :: x6 :: x7 :: x8 :: x9 :: x10 :: some (.ref x) :: r) (.ref x :: st)) : V E X nc ns n M pc (x0 :: x1 :: x2 :: x3 :: x4 :: x5 :: x6 :: x7 :: x8 :: x9 :: x10 :: some (.ref x) :: r) st := V.aload g hd rfl k
theorem V.alN11 {E : Ev} {X : Cx} {cc : ByteArray} {own : String} {d mc ms nc ns n pc q : Nat} {M : Mem} {st : List Value} {x0 x1 x2 x3 x4 x5 x6 x7 x8 x9 x10 : Option Value} {r : List (Option Value)}  (g : G0 E X cc own d mc ms) (hd : Dc cc pc 2 q (.aload 11)) (k : V E X nc ns n M q (x0 :: x1 :: x2 :: x3 :: x4 :: x5 :: x6 :: x7 :: x8 :: x9 :: x10 :: some .null :: r) (.null :: st)) : V E X nc ns n M pc (x0 :: x1 :: x2 :: x3 :: x4 :: x5 :: x6 :: x7 :: x8 :: x9 :: x10 :: some .null :: r) st := V.aloadN g hd rfl k
theorem V.is11 {E : Ev} {X : Cx} {cc : ByteArray} {own : String} {d mc ms nc ns n pc q : Nat} {M : Mem} {st : List Value} {x0 x1 x2 x3 x4 x5 x6 x7 x8 x9 x10 : Option Value} {r : List (Option Value)} {x : Int32} {y : Option Value} (g : G0 E X cc own d mc ms) (hd : Dc cc pc 2 q (.istore 11)) (k : V E X nc ns n M q (x0 :: x1 :: x2 :: x3 :: x4 :: x5 :: x6 :: x7 :: x8 :: x9 :: x10 :: some (.int x) :: r) st) : V E X nc ns n M pc (x0 :: x1 :: x2 :: x3 :: x4 :: x5 :: x6 :: x7 :: x8 :: x9 :: x10 :: y :: r) (.int x :: st) := V.istore g hd (show 11 < (x0 :: x1 :: x2 :: x3 :: x4 :: x5 :: x6 :: x7 :: x8 :: x9 :: x10 :: y :: r).length by simp only [List.length_cons]; omega) k
theorem V.as11 {E : Ev} {X : Cx} {cc : ByteArray} {own : String} {d mc ms nc ns n pc q : Nat} {M : Mem} {st : List Value} {x0 x1 x2 x3 x4 x5 x6 x7 x8 x9 x10 : Option Value} {r : List (Option Value)} {x : Nat} {y : Option Value} (g : G0 E X cc own d mc ms) (hd : Dc cc pc 2 q (.astore 11)) (k : V E X nc ns n M q (x0 :: x1 :: x2 :: x3 :: x4 :: x5 :: x6 :: x7 :: x8 :: x9 :: x10 :: some (.ref x) :: r) st) : V E X nc ns n M pc (x0 :: x1 :: x2 :: x3 :: x4 :: x5 :: x6 :: x7 :: x8 :: x9 :: x10 :: y :: r) (.ref x :: st) := V.astore g hd (show 11 < (x0 :: x1 :: x2 :: x3 :: x4 :: x5 :: x6 :: x7 :: x8 :: x9 :: x10 :: y :: r).length by simp only [List.length_cons]; omega) k
theorem V.asN11 {E : Ev} {X : Cx} {cc : ByteArray} {own : String} {d mc ms nc ns n pc q : Nat} {M : Mem} {st : List Value} {x0 x1 x2 x3 x4 x5 x6 x7 x8 x9 x10 : Option Value} {r : List (Option Value)} {y : Option Value} (g : G0 E X cc own d mc ms) (hd : Dc cc pc 2 q (.astore 11)) (k : V E X nc ns n M q (x0 :: x1 :: x2 :: x3 :: x4 :: x5 :: x6 :: x7 :: x8 :: x9 :: x10 :: some .null :: r) st) : V E X nc ns n M pc (x0 :: x1 :: x2 :: x3 :: x4 :: x5 :: x6 :: x7 :: x8 :: x9 :: x10 :: y :: r) (.null :: st) := V.astoreN g hd (show 11 < (x0 :: x1 :: x2 :: x3 :: x4 :: x5 :: x6 :: x7 :: x8 :: x9 :: x10 :: y :: r).length by simp only [List.length_cons]; omega) k
theorem V.inc11 {E : Ev} {X : Cx} {cc : ByteArray} {own : String} {d mc ms nc ns n pc q : Nat} {M : Mem} {st : List Value} {x0 x1 x2 x3 x4 x5 x6 x7 x8 x9 x10 : Option Value} {r : List (Option Value)} {a z : Int} (g : G0 E X cc own d mc ms) (hd : Dc cc pc 3 q (.iinc 11 z)) (k : V E X nc ns n M q (x0 :: x1 :: x2 :: x3 :: x4 :: x5 :: x6 :: x7 :: x8 :: x9 :: x10 :: some (.int (iI (a + z))) :: r) st) : V E X nc ns n M pc (x0 :: x1 :: x2 :: x3 :: x4 :: x5 :: x6 :: x7 :: x8 :: x9 :: x10 :: some (.int (iI a)) :: r) st := V.iinc g hd rfl k
theorem V.il12 {E : Ev} {X : Cx} {cc : ByteArray} {own : String} {d mc ms nc ns n pc q : Nat} {M : Mem} {st : List Value} {x0 x1 x2 x3 x4 x5 x6 x7 x8 x9 x10 x11 : Option Value} {r : List (Option Value)} {x : Int32} (g : G0 E X cc own d mc ms) (hd : Dc cc pc 2 q (.iload 12)) (k : V E X nc ns n M q (x0 :: x1 :: x2 :: x3 :: x4 :: x5 :: x6 :: x7 :: x8 :: x9 :: x10 :: x11 :: some (.int x) :: r) (.int x :: st)) : V E X nc ns n M pc (x0 :: x1 :: x2 :: x3 :: x4 :: x5 :: x6 :: x7 :: x8 :: x9 :: x10 :: x11 :: some (.int x) :: r) st := V.iload g hd rfl k
theorem V.al12 {E : Ev} {X : Cx} {cc : ByteArray} {own : String} {d mc ms nc ns n pc q : Nat} {M : Mem} {st : List Value} {x0 x1 x2 x3 x4 x5 x6 x7 x8 x9 x10 x11 : Option Value} {r : List (Option Value)} {x : Nat} (g : G0 E X cc own d mc ms) (hd : Dc cc pc 2 q (.aload 12)) (k : V E X nc ns n M q (x0 :: x1 :: x2 :: x3 :: x4 :: x5 :: x6 :: x7 :: x8 :: x9 :: x10 :: x11 :: some (.ref x) :: r) (.ref x :: st)) : V E X nc ns n M pc (x0 :: x1 :: x2 :: x3 :: x4 :: x5 :: x6 :: x7 :: x8 :: x9 :: x10 :: x11 :: some (.ref x) :: r) st := V.aload g hd rfl k
theorem V.alN12 {E : Ev} {X : Cx} {cc : ByteArray} {own : String} {d mc ms nc ns n pc q : Nat} {M : Mem} {st : List Value} {x0 x1 x2 x3 x4 x5 x6 x7 x8 x9 x10 x11 : Option Value} {r : List (Option Value)}  (g : G0 E X cc own d mc ms) (hd : Dc cc pc 2 q (.aload 12)) (k : V E X nc ns n M q (x0 :: x1 :: x2 :: x3 :: x4 :: x5 :: x6 :: x7 :: x8 :: x9 :: x10 :: x11 :: some .null :: r) (.null :: st)) : V E X nc ns n M pc (x0 :: x1 :: x2 :: x3 :: x4 :: x5 :: x6 :: x7 :: x8 :: x9 :: x10 :: x11 :: some .null :: r) st := V.aloadN g hd rfl k
theorem V.is12 {E : Ev} {X : Cx} {cc : ByteArray} {own : String} {d mc ms nc ns n pc q : Nat} {M : Mem} {st : List Value} {x0 x1 x2 x3 x4 x5 x6 x7 x8 x9 x10 x11 : Option Value} {r : List (Option Value)} {x : Int32} {y : Option Value} (g : G0 E X cc own d mc ms) (hd : Dc cc pc 2 q (.istore 12)) (k : V E X nc ns n M q (x0 :: x1 :: x2 :: x3 :: x4 :: x5 :: x6 :: x7 :: x8 :: x9 :: x10 :: x11 :: some (.int x) :: r) st) : V E X nc ns n M pc (x0 :: x1 :: x2 :: x3 :: x4 :: x5 :: x6 :: x7 :: x8 :: x9 :: x10 :: x11 :: y :: r) (.int x :: st) := V.istore g hd (show 12 < (x0 :: x1 :: x2 :: x3 :: x4 :: x5 :: x6 :: x7 :: x8 :: x9 :: x10 :: x11 :: y :: r).length by simp only [List.length_cons]; omega) k
theorem V.as12 {E : Ev} {X : Cx} {cc : ByteArray} {own : String} {d mc ms nc ns n pc q : Nat} {M : Mem} {st : List Value} {x0 x1 x2 x3 x4 x5 x6 x7 x8 x9 x10 x11 : Option Value} {r : List (Option Value)} {x : Nat} {y : Option Value} (g : G0 E X cc own d mc ms) (hd : Dc cc pc 2 q (.astore 12)) (k : V E X nc ns n M q (x0 :: x1 :: x2 :: x3 :: x4 :: x5 :: x6 :: x7 :: x8 :: x9 :: x10 :: x11 :: some (.ref x) :: r) st) : V E X nc ns n M pc (x0 :: x1 :: x2 :: x3 :: x4 :: x5 :: x6 :: x7 :: x8 :: x9 :: x10 :: x11 :: y :: r) (.ref x :: st) := V.astore g hd (show 12 < (x0 :: x1 :: x2 :: x3 :: x4 :: x5 :: x6 :: x7 :: x8 :: x9 :: x10 :: x11 :: y :: r).length by simp only [List.length_cons]; omega) k
theorem V.asN12 {E : Ev} {X : Cx} {cc : ByteArray} {own : String} {d mc ms nc ns n pc q : Nat} {M : Mem} {st : List Value} {x0 x1 x2 x3 x4 x5 x6 x7 x8 x9 x10 x11 : Option Value} {r : List (Option Value)} {y : Option Value} (g : G0 E X cc own d mc ms) (hd : Dc cc pc 2 q (.astore 12)) (k : V E X nc ns n M q (x0 :: x1 :: x2 :: x3 :: x4 :: x5 :: x6 :: x7 :: x8 :: x9 :: x10 :: x11 :: some .null :: r) st) : V E X nc ns n M pc (x0 :: x1 :: x2 :: x3 :: x4 :: x5 :: x6 :: x7 :: x8 :: x9 :: x10 :: x11 :: y :: r) (.null :: st) := V.astoreN g hd (show 12 < (x0 :: x1 :: x2 :: x3 :: x4 :: x5 :: x6 :: x7 :: x8 :: x9 :: x10 :: x11 :: y :: r).length by simp only [List.length_cons]; omega) k
theorem V.inc12 {E : Ev} {X : Cx} {cc : ByteArray} {own : String} {d mc ms nc ns n pc q : Nat} {M : Mem} {st : List Value} {x0 x1 x2 x3 x4 x5 x6 x7 x8 x9 x10 x11 : Option Value} {r : List (Option Value)} {a z : Int} (g : G0 E X cc own d mc ms) (hd : Dc cc pc 3 q (.iinc 12 z)) (k : V E X nc ns n M q (x0 :: x1 :: x2 :: x3 :: x4 :: x5 :: x6 :: x7 :: x8 :: x9 :: x10 :: x11 :: some (.int (iI (a + z))) :: r) st) : V E X nc ns n M pc (x0 :: x1 :: x2 :: x3 :: x4 :: x5 :: x6 :: x7 :: x8 :: x9 :: x10 :: x11 :: some (.int (iI a)) :: r) st := V.iinc g hd rfl k
theorem V.il13 {E : Ev} {X : Cx} {cc : ByteArray} {own : String} {d mc ms nc ns n pc q : Nat} {M : Mem} {st : List Value} {x0 x1 x2 x3 x4 x5 x6 x7 x8 x9 x10 x11 x12 : Option Value} {r : List (Option Value)} {x : Int32} (g : G0 E X cc own d mc ms) (hd : Dc cc pc 2 q (.iload 13)) (k : V E X nc ns n M q (x0 :: x1 :: x2 :: x3 :: x4 :: x5 :: x6 :: x7 :: x8 :: x9 :: x10 :: x11 :: x12 :: some (.int x) :: r) (.int x :: st)) : V E X nc ns n M pc (x0 :: x1 :: x2 :: x3 :: x4 :: x5 :: x6 :: x7 :: x8 :: x9 :: x10 :: x11 :: x12 :: some (.int x) :: r) st := V.iload g hd rfl k
theorem V.al13 {E : Ev} {X : Cx} {cc : ByteArray} {own : String} {d mc ms nc ns n pc q : Nat} {M : Mem} {st : List Value} {x0 x1 x2 x3 x4 x5 x6 x7 x8 x9 x10 x11 x12 : Option Value} {r : List (Option Value)} {x : Nat} (g : G0 E X cc own d mc ms) (hd : Dc cc pc 2 q (.aload 13)) (k : V E X nc ns n M q (x0 :: x1 :: x2 :: x3 :: x4 :: x5 :: x6 :: x7 :: x8 :: x9 :: x10 :: x11 :: x12 :: some (.ref x) :: r) (.ref x :: st)) : V E X nc ns n M pc (x0 :: x1 :: x2 :: x3 :: x4 :: x5 :: x6 :: x7 :: x8 :: x9 :: x10 :: x11 :: x12 :: some (.ref x) :: r) st := V.aload g hd rfl k
theorem V.alN13 {E : Ev} {X : Cx} {cc : ByteArray} {own : String} {d mc ms nc ns n pc q : Nat} {M : Mem} {st : List Value} {x0 x1 x2 x3 x4 x5 x6 x7 x8 x9 x10 x11 x12 : Option Value} {r : List (Option Value)}  (g : G0 E X cc own d mc ms) (hd : Dc cc pc 2 q (.aload 13)) (k : V E X nc ns n M q (x0 :: x1 :: x2 :: x3 :: x4 :: x5 :: x6 :: x7 :: x8 :: x9 :: x10 :: x11 :: x12 :: some .null :: r) (.null :: st)) : V E X nc ns n M pc (x0 :: x1 :: x2 :: x3 :: x4 :: x5 :: x6 :: x7 :: x8 :: x9 :: x10 :: x11 :: x12 :: some .null :: r) st := V.aloadN g hd rfl k
theorem V.is13 {E : Ev} {X : Cx} {cc : ByteArray} {own : String} {d mc ms nc ns n pc q : Nat} {M : Mem} {st : List Value} {x0 x1 x2 x3 x4 x5 x6 x7 x8 x9 x10 x11 x12 : Option Value} {r : List (Option Value)} {x : Int32} {y : Option Value} (g : G0 E X cc own d mc ms) (hd : Dc cc pc 2 q (.istore 13)) (k : V E X nc ns n M q (x0 :: x1 :: x2 :: x3 :: x4 :: x5 :: x6 :: x7 :: x8 :: x9 :: x10 :: x11 :: x12 :: some (.int x) :: r) st) : V E X nc ns n M pc (x0 :: x1 :: x2 :: x3 :: x4 :: x5 :: x6 :: x7 :: x8 :: x9 :: x10 :: x11 :: x12 :: y :: r) (.int x :: st) := V.istore g hd (show 13 < (x0 :: x1 :: x2 :: x3 :: x4 :: x5 :: x6 :: x7 :: x8 :: x9 :: x10 :: x11 :: x12 :: y :: r).length by simp only [List.length_cons]; omega) k
theorem V.as13 {E : Ev} {X : Cx} {cc : ByteArray} {own : String} {d mc ms nc ns n pc q : Nat} {M : Mem} {st : List Value} {x0 x1 x2 x3 x4 x5 x6 x7 x8 x9 x10 x11 x12 : Option Value} {r : List (Option Value)} {x : Nat} {y : Option Value} (g : G0 E X cc own d mc ms) (hd : Dc cc pc 2 q (.astore 13)) (k : V E X nc ns n M q (x0 :: x1 :: x2 :: x3 :: x4 :: x5 :: x6 :: x7 :: x8 :: x9 :: x10 :: x11 :: x12 :: some (.ref x) :: r) st) : V E X nc ns n M pc (x0 :: x1 :: x2 :: x3 :: x4 :: x5 :: x6 :: x7 :: x8 :: x9 :: x10 :: x11 :: x12 :: y :: r) (.ref x :: st) := V.astore g hd (show 13 < (x0 :: x1 :: x2 :: x3 :: x4 :: x5 :: x6 :: x7 :: x8 :: x9 :: x10 :: x11 :: x12 :: y :: r).length by simp only [List.length_cons]; omega) k
theorem V.asN13 {E : Ev} {X : Cx} {cc : ByteArray} {own : String} {d mc ms nc ns n pc q : Nat} {M : Mem} {st : List Value} {x0 x1 x2 x3 x4 x5 x6 x7 x8 x9 x10 x11 x12 : Option Value} {r : List (Option Value)} {y : Option Value} (g : G0 E X cc own d mc ms) (hd : Dc cc pc 2 q (.astore 13)) (k : V E X nc ns n M q (x0 :: x1 :: x2 :: x3 :: x4 :: x5 :: x6 :: x7 :: x8 :: x9 :: x10 :: x11 :: x12 :: some .null :: r) st) : V E X nc ns n M pc (x0 :: x1 :: x2 :: x3 :: x4 :: x5 :: x6 :: x7 :: x8 :: x9 :: x10 :: x11 :: x12 :: y :: r) (.null :: st) := V.astoreN g hd (show 13 < (x0 :: x1 :: x2 :: x3 :: x4 :: x5 :: x6 :: x7 :: x8 :: x9 :: x10 :: x11 :: x12 :: y :: r).length by simp only [List.length_cons]; omega) k
theorem V.inc13 {E : Ev} {X : Cx} {cc : ByteArray} {own : String} {d mc ms nc ns n pc q : Nat} {M : Mem} {st : List Value} {x0 x1 x2 x3 x4 x5 x6 x7 x8 x9 x10 x11 x12 : Option Value} {r : List (Option Value)} {a z : Int} (g : G0 E X cc own d mc ms) (hd : Dc cc pc 3 q (.iinc 13 z)) (k : V E X nc ns n M q (x0 :: x1 :: x2 :: x3 :: x4 :: x5 :: x6 :: x7 :: x8 :: x9 :: x10 :: x11 :: x12 :: some (.int (iI (a + z))) :: r) st) : V E X nc ns n M pc (x0 :: x1 :: x2 :: x3 :: x4 :: x5 :: x6 :: x7 :: x8 :: x9 :: x10 :: x11 :: x12 :: some (.int (iI a)) :: r) st := V.iinc g hd rfl k
