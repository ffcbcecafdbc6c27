/-! more rows: the JDK's counting of bits, comparing of longs -/
theorem V.iushr {E : Ev} {X : Cx} {cc : ByteArray} {own : String} {d mc ms nc ns n pc q : Nat} {M : Mem} {lc : List (Option Value)} {st : List Value} {x y v : Int32} (g : G0 E X cc own d mc ms) (hd : Dc cc pc 1 q .iushr) (hv : (x.toUInt32 >>> (y.toUInt32 &&& Int32.toUInt32 31)).toInt32 = v) (k : V E X nc ns n M q lc (.int v :: st)) : V E X nc ns n M pc lc (.int y :: .int x :: st) := by
  obtain ⟨l, D, cy, b0⟩ := E
  obtain ⟨p, e, R, s, m, args, below, meth, c, nL, Q⟩ := X
  obtain ⟨hx, hb, hml, hown, hts, ⟨hK, hAO, hNe⟩, hbs, hR1, hR2, hR3, hR4⟩ := g
  intro H locs ls hn ho hP hS hl
  obtain ⟨hd, rfl⟩ := hd
  exact lv_iushr hx hb hd hv (k H locs ls hn ho hP hS hl)
theorem V.ldcw {E : Ev} {X : Cx} {cc : ByteArray} {own : String} {d mc ms nc ns n pc q idx : Nat} {M : Mem} {lc : List (Option Value)} {st : List Value} {v : Int32} (g : G0 E X cc own d mc ms) (hd : Dc cc pc 3 q (.ldc_w idx)) (hw : Cond.constant own idx v ∈ tb) (k : V E X nc ns n M q lc (.int v :: st)) : V E X nc ns n M pc lc st := by
  obtain ⟨l, D, cy, b0⟩ := E
  obtain ⟨p, e, R, s, m, args, below, meth, c, nL, Q⟩ := X
  obtain ⟨hx, hb, hml, hown, hts, ⟨hK, hAO, hNe⟩, hbs, hR1, hR2, hR3, hR4⟩ := g
  intro H locs ls hn ho hP hS hl
  obtain ⟨hd, rfl⟩ := hd
  exact lv_ldcw hx hb hown (hts _ hw) hd (k H locs ls hn ho hP hS hl)
theorem V.iaddR {E : Ev} {X : Cx} {cc : ByteArray} {own : String} {d mc ms nc ns n pc q : Nat} {M : Mem} {lc : List (Option Value)} {st : List Value} {x y : Int32} (g : G0 E X cc own d mc ms) (hd : Dc cc pc 1 q .iadd) (k : V E X nc ns n M q lc (.int (x + y) :: st)) : V E X nc ns n M pc lc (.int y :: .int x :: st) := by
  obtain ⟨l, D, cy, b0⟩ := E
  obtain ⟨p, e, R, s, m, args, below, meth, c, nL, Q⟩ := X
  obtain ⟨hx, hb, hml, hown, hts, ⟨hK, hAO, hNe⟩, hbs, hR1, hR2, hR3, hR4⟩ := g
  intro H locs ls hn ho hP hS hl
  obtain ⟨hd, rfl⟩ := hd
  exact lv_iadd hx hb hd (k H locs ls hn ho hP hS hl)
theorem V.isubR {E : Ev} {X : Cx} {cc : ByteArray} {own : String} {d mc ms nc ns n pc q : Nat} {M : Mem} {lc : List (Option Value)} {st : List Value} {x y : Int32} (g : G0 E X cc own d mc ms) (hd : Dc cc pc 1 q .isub) (k : V E X nc ns n M q lc (.int (x - y) :: st)) : V E X nc ns n M pc lc (.int y :: .int x :: st) := by
  obtain ⟨l, D, cy, b0⟩ := E
  obtain ⟨p, e, R, s, m, args, below, meth, c, nL, Q⟩ := X
  obtain ⟨hx, hb, hml, hown, hts, ⟨hK, hAO, hNe⟩, hbs, hR1, hR2, hR3, hR4⟩ := g
  intro H locs ls hn ho hP hS hl
  obtain ⟨hd, rfl⟩ := hd
  exact lv_isub hx hb hd (k H locs ls hn ho hP hS hl)
theorem V.iandR {E : Ev} {X : Cx} {cc : ByteArray} {own : String} {d mc ms nc ns n pc q : Nat} {M : Mem} {lc : List (Option Value)} {st : List Value} {x y : Int32} (g : G0 E X cc own d mc ms) (hd : Dc cc pc 1 q .iand) (k : V E X nc ns n M q lc (.int (x &&& y) :: st)) : V E X nc ns n M pc lc (.int y :: .int x :: st) := by
  obtain ⟨l, D, cy, b0⟩ := E
  obtain ⟨p, e, R, s, m, args, below, meth, c, nL, Q⟩ := X
  obtain ⟨hx, hb, hml, hown, hts, ⟨hK, hAO, hNe⟩, hbs, hR1, hR2, hR3, hR4⟩ := g
  intro H locs ls hn ho hP hS hl
  obtain ⟨hd, rfl⟩ := hd
  exact lv_iand hx hb hd (k H locs ls hn ho hP hS hl)
theorem V.lret {E : Ev} {X : Cx} {cc : ByteArray} {y : MethodName} {d mc ms nc ns n pc : Nat} {M : Mem} {lc : List (Option Value)} {x : Int64} {Po : Option Value → Nat → Mem → Prop} (g : G E X cc y (some .long) d mc ms Po) (hd : decode cc pc = .ok (.lreturn, 1)) (h1 : nc ≤ mc) (h2 : ns ≤ ms) (hp : Po (some (.long x)) n M) : V E X nc ns n M pc lc [.long x] := by
  obtain ⟨l, D, cy, b0⟩ := E
  obtain ⟨p, e, R, s, m, args, below, meth, c, nL, Q⟩ := X
  obtain ⟨⟨hx, hb, hml, hown, hts, ⟨hK, hAO, hNe⟩, hbs, hR1, hR2, hR3, hR4⟩, hlk, hr, hnm, rfl⟩ := g
  intro H locs ls hn ho hP hS hl
  refine W.widen h1 h2 ?_
  exact W.lret hx hb hr (fun t ht hW => ⟨⟨_, n, M, rfl, hp, by rw [ht]; exact hn, ho, by rw [ht]; exact hP, KK.warm hW ⟨hK, hAO, hNe⟩⟩, hS.F ht⟩) hS.2.2 hd hlk
theorem V.lcmp {E : Ev} {X : Cx} {cc : ByteArray} {own : String} {d mc ms nc ns n pc q : Nat} {M : Mem} {lc : List (Option Value)} {st : List Value} {x y : Int64} {v : Int32} (g : G0 E X cc own d mc ms) (hd : Dc cc pc 1 q .lcmp) (hv : (if y < x then (1 : Int32) else if x = y then 0 else -1) = v) (k : V E X nc ns n M q lc (.int v :: st)) : V E X nc ns n M pc lc (.long y :: .long x :: st) := by
  obtain ⟨l, D, cy, b0⟩ := E
  obtain ⟨p, e, R, s, m, args, below, meth, c, nL, Q⟩ := X
  obtain ⟨hx, hb, hml, hown, hts, ⟨hK, hAO, hNe⟩, hbs, hR1, hR2, hR3, hR4⟩ := g
  intro H locs ls hn ho hP hS hl
  obtain ⟨hd, rfl⟩ := hd
  subst hv
  exact W.lcmp hx hb hd (k H locs ls hn ho hP hS hl)
