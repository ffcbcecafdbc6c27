/-! rows that the law of p27 wants: a constant, comparisons that end in 0 or 1, answers told anew, the script in a method of its own -/
theorem V.ldc1 {E : Ev} {X : Cx} {cc : ByteArray} {own : String} {d mc ms nc ns n pc q : Nat} {M : Mem} {lc : List (Option Value)} {st : List Value} {idx : Nat} {v : Int32} (g : G0 E X cc own d mc ms) (hd : Dc cc pc 2 q (.ldc idx)) (hw : Cond.constant own idx v ∈ tb) (k : V E X nc ns n M q lc (.int v :: st)) : V E X nc ns n M pc lc st := by
  obtain ⟨l, D, cy, b0⟩ := E
  obtain ⟨p, e, R, s, m, args, below, meth, c, nL, Q⟩ := X
  obtain ⟨hx, hb, hml, hown, hts, ⟨hK, hAO, hNe⟩, hbs, hR1, hR2, hR3, hR4⟩ := g
  intro H locs ls hn ho hP hS hl
  obtain ⟨hd, rfl⟩ := hd
  exact lv_ldc hx hb hown (hts _ hw) hd (k H locs ls hn ho hP hS hl)
theorem V.eqb_icmpne {E : Ev} {X : Cx} {cc : ByteArray} {own : String} {d mc ms nc ns n pc q q1 q2 t B : Nat} {M : Mem} {lc : List (Option Value)} {st : List Value} {x y : Int} {P : Prop} [Decidable P] (g : G0 E X cc own d mc ms) (hj : Dj cc pc q t (.if_icmp .ne)) (h1 : Dc cc q 1 q1 (.iconst 1)) (h2 : Dj cc q1 q2 B .goto) (h3 : Dc cc t 1 B (.iconst 0)) (hr : -2147483648 ≤ x ∧ x < 2147483648 ∧ -2147483648 ≤ y ∧ y < 2147483648) (hP : (x = y) ↔ P) (k : V E X nc ns n M B lc (.int (iI (bI P)) :: st)) : V E X nc ns n M pc lc (.int (iI y) :: .int (iI x) :: st) :=
  V.icmpne g hj hr (fun c => V.iconst g h3 (by rw [bI_f (fun q => c (hP.mpr q))] at k; exact k)) (fun c => V.iconst g h1 (V.goto g h2 (by rw [bI_t (hP.mp c)] at k; exact k)))
theorem V.eqb_icmpeq {E : Ev} {X : Cx} {cc : ByteArray} {own : String} {d mc ms nc ns n pc q q1 q2 t B : Nat} {M : Mem} {lc : List (Option Value)} {st : List Value} {x y : Int} {P : Prop} [Decidable P] (g : G0 E X cc own d mc ms) (hj : Dj cc pc q t (.if_icmp .eq)) (h1 : Dc cc q 1 q1 (.iconst 1)) (h2 : Dj cc q1 q2 B .goto) (h3 : Dc cc t 1 B (.iconst 0)) (hr : -2147483648 ≤ x ∧ x < 2147483648 ∧ -2147483648 ≤ y ∧ y < 2147483648) (hP : (¬ x = y) ↔ P) (k : V E X nc ns n M B lc (.int (iI (bI P)) :: st)) : V E X nc ns n M pc lc (.int (iI y) :: .int (iI x) :: st) :=
  V.icmpeq g hj hr (fun c => V.iconst g h3 (by rw [bI_f (fun q => hP.mpr q c)] at k; exact k)) (fun c => V.iconst g h1 (V.goto g h2 (by rw [bI_t (hP.mp c)] at k; exact k)))
theorem V.eqb_ifne {E : Ev} {X : Cx} {cc : ByteArray} {own : String} {d mc ms nc ns n pc q q1 q2 t B : Nat} {M : Mem} {lc : List (Option Value)} {st : List Value} {z : Int} {P : Prop} [Decidable P] (g : G0 E X cc own d mc ms) (hj : Dj cc pc q t (.ifCond .ne)) (h1 : Dc cc q 1 q1 (.iconst 1)) (h2 : Dj cc q1 q2 B .goto) (h3 : Dc cc t 1 B (.iconst 0)) (hr : -2147483648 ≤ z ∧ z < 2147483648) (hP : (z = 0) ↔ P) (k : V E X nc ns n M B lc (.int (iI (bI P)) :: st)) : V E X nc ns n M pc lc (.int (iI z) :: st) :=
  V.ifne g hj hr (fun c => V.iconst g h3 (by rw [bI_f (fun q => c (hP.mpr q))] at k; exact k)) (fun c => V.iconst g h1 (V.goto g h2 (by rw [bI_t (hP.mp c)] at k; exact k)))
theorem V.eqb_ifle {E : Ev} {X : Cx} {cc : ByteArray} {own : String} {d mc ms nc ns n pc q q1 q2 t B : Nat} {M : Mem} {lc : List (Option Value)} {st : List Value} {z : Int} {P : Prop} [Decidable P] (g : G0 E X cc own d mc ms) (hj : Dj cc pc q t (.ifCond .le)) (h1 : Dc cc q 1 q1 (.iconst 1)) (h2 : Dj cc q1 q2 B .goto) (h3 : Dc cc t 1 B (.iconst 0)) (hr : -2147483648 ≤ z ∧ z < 2147483648) (hP : (¬ z ≤ 0) ↔ P) (k : V E X nc ns n M B lc (.int (iI (bI P)) :: st)) : V E X nc ns n M pc lc (.int (iI z) :: st) :=
  V.ifle g hj hr (fun c => V.iconst g h3 (by rw [bI_f (fun q => hP.mpr q c)] at k; exact k)) (fun c => V.iconst g h1 (V.goto g h2 (by rw [bI_t (hP.mp c)] at k; exact k)))
/-- the two are one: no range is asked -/
theorem V.sameNe {E : Ev} {X : Cx} {cc : ByteArray} {own : String} {d mc ms nc ns n pc q t : Nat} {M : Mem} {lc : List (Option Value)} {st : List Value} {x : Int32} (g : G0 E X cc own d mc ms) (hd : Dj cc pc q t (.if_icmp .ne)) (k : V E X nc ns n M q lc st) : V E X nc ns n M pc lc (.int x :: .int x :: st) := by
  obtain ⟨l, D, cy, b0⟩ := E
  obtain ⟨p, e, R, s, m, args, below, meth, c, nL, Q⟩ := X
  obtain ⟨hx, hb, hml, hown, hts, ⟨hK, hAO, hNe⟩, hbs, hR1, hR2, hR3, hR4⟩ := g
  intro H locs ls hn ho hP hS hl
  obtain ⟨off, hd, rfl, ht⟩ := hd
  exact lv_icmp_ne hx hb hd ht (fun z => absurd rfl z) (fun _ => k H locs ls hn ho hP hS hl)
theorem MT.ans {E : Ev} {y : MethodName} {cc : ByteArray} {nL : Nat} {ret : Option FieldType} {d mc ms : Nat} {as : List Value} {n : Nat} {M : Mem} {a b : Int} (h : MT E y cc nL ret d mc ms as n M (PF (some (.int (iI a))) n M)) (e : a = b) : MT E y cc nL ret d mc ms as n M (PF (some (.int (iI b))) n M) := e ▸ h
theorem iI_sat (x : Int32) : x = iI x.toInt := (iI_self x).symm
theorem V.eqS {E : Ev} {X : Cx} {nc ns n pc : Nat} {M : Mem} {lc : List (Option Value)} {st : List Value} {a b : Int} (k : V E X nc ns n M pc lc (.int (iI a) :: st)) (h : a = b) : V E X nc ns n M pc lc (.int (iI b) :: st) := h ▸ k
/-! a method that reads the script -/
def MTX (E : Ev) (y : MethodName) (cc : ByteArray) (nL : Nat) (ret : Option FieldType) (d mc ms : Nat) (as : List Value) (n : Nat) (M : Mem) (b L : Nat) (xs : Nat → Int32) (Po : Option Value → Nat → Mem → Prop) : Prop :=
  Met E.1 y (wd y cc nL ret) ⟨d, mc, ms, 30 * d⟩ (va_Pc as (fun U => (E.2.2.2 ≤ n ∧ U.heap.size = n ∧ MOk E.2.2.2 n M ∧ va_P E.2.1 vwCl (pool E.2.2.2 n M) U.heap ∧ KK E.2.1 E.2.2.1 U) ∧ va_X b L xs U U.heap ∧ b < E.2.2.2)) (QQ E Po) mc ms (fun q => E.2.2.2 ≤ q)
theorem va_X.lt {b L : Nat} {xs : Nat → Int32} {U : State} {H : Heap} (h : va_X b L xs U H) : b < H.size := by
  obtain ⟨scr, h1, -⟩ := h
  exact (Array.getElem?_eq_some_iff.mp h1).1
theorem MTX.of {E : Ev} {y : MethodName} {cc : ByteArray} {nL : Nat} {ret : Option FieldType} {d mc ms : Nat} {as : List Value} {n : Nat} {M : Mem} {b L : Nat} {xs : Nat → Int32} {Po : Option Value → Nat → Mem → Prop} (hy : plainName y.cls = true) (h1 : as.all (fun v => v.category == 1) = true) (h2 : as.length ≤ nL)
    (body : ∀ X : Cx, G E X cc y ret d mc ms Po → SX E X b L xs → V E X 0 0 n M 0 (as.map some ++ List.replicate (nL - as.length) none) []) : MTX E y cc nL ret d mc ms as n M b L xs Po := by
  obtain ⟨l, D, cy, b0⟩ := E
  refine Met.ofW (cc := cc) (maxL := nL) (ret := ret) hy rfl ?_
  intro p e s m args below meth c s₁ B hml hv
  obtain ⟨rfl, ⟨hbn, hsz, hok, hP, hK⟩, hX, hb0⟩ := hv
  have hts := atoms_spec (ws := wd y cc nL ret) B.pre
  have hown : s.vm.findClass y.cls = some m.cls := findClass_of_methodNamed B.named
  rw [lg_entry_eq]
  refine body (p, e, _, s, m, as.toArray, below, meth, c, nL, _) ⟨⟨B.exec, B.bytes, hml, hown, fun w hw => hts w (List.mem_cons_of_mem _ hw), hK, by have hbn : b0 ≤ n := hbn; have hsz : s.heap.size = n := hsz; omega, rfl, Nat.le_refl _, rfl, rfl⟩, B.notSynchronized, B.returns, (name_of_methodNamed B.named B.method).1, rfl⟩ ⟨hX, hX.lt, hb0⟩ s.heap [] _ hsz hok hP va_S.rf (lh_entry as nL h1 h2)
theorem PcX_blind {E : Ev} {as : List Value} {n : Nat} {M : Mem} {b L : Nat} {xs : Nat → Int32} : FrameBlind (va_Pc as (fun U => (E.2.2.2 ≤ n ∧ U.heap.size = n ∧ MOk E.2.2.2 n M ∧ va_P E.2.1 vwCl (pool E.2.2.2 n M) U.heap ∧ KK E.2.1 E.2.2.1 U) ∧ va_X b L xs U U.heap ∧ b < E.2.2.2)) := fun a U g mk h => by
  obtain ⟨h0, ⟨h1, h2, h3, h4, h5⟩, h6, h7⟩ := h
  exact ⟨h0, ⟨h1, h2, h3, h4, KK.warm (s := U) (U := U.calling g mk a) (State.WarmedH.refl U) h5⟩, va_X.moved (u := U) (U := U.calling g mk a) (State.WarmedH.refl U).alike h6, h7⟩
theorem V.callSX {E : Ev} {X : Cx} {cc bytes : ByteArray} {own : String} {d mc ms nc ns n pc q idx d' nLy k b L : Nat} {xs : Nat → Int32} {M : Mem} {lc : List (Option Value)} {st rest as : List Value} {y : MethodName} {rety : Option FieldType} {w : Value} (g : G0 E X cc own d mc ms) (hsx : SX E X b L xs) (hM : MTX E y bytes nLy rety d' 0 0 as n M b L xs (PF (some w) n M)) (hy : KY y bytes nLy rety k) (hs : Cond.static y ∈ tb) (hlk : Cond.methodLink own idx y ∈ tb) (hdd : d' + 1 ≤ d) (hmc : nc ≤ mc ∧ ns ≤ ms) (hst : st = as.reverse ++ rest) (hk : as.length = k) (hcat : (rest.map fun v => v.category).sum ≤ 8) (hd : Dc cc pc 3 q (.invokestatic idx)) (kk : V E X nc ns n M q lc (w :: rest)) : V E X nc ns n M pc lc st := by
  obtain ⟨l, D, cy, b0⟩ := E
  obtain ⟨p, e, R, s, m, args, below, meth, c, nL, Q⟩ := X
  obtain ⟨hx, hb, hml, hown, hts, ⟨hK, hAO, hNe⟩, hbs, hR1, hR2, hR3, hR4⟩ := g
  obtain ⟨hX, hbl, hbA⟩ := hsx
  intro H locs ls hn ho hP hS hl
  obtain ⟨hd, rfl⟩ := hd
  obtain ⟨hy1, hy2, hy3, hy4⟩ := hy
  have cb := callB_of (R := R) (rm := ⟨d', 0, 0, 30 * d'⟩) (mc := 0) (ms := 0) k hts (wd_good hy2) rfl rfl rfl (hts _ hy3) (hts _ hlk) hy1 ⟨by show d' + 1 ≤ _; omega, by show _ + 30 * d' ≤ _; omega⟩
  have hr := va_runS (H := H) (locs := locs) (cells := nc) (slots := ns) (e := e) (R := R) (below := below) (meth := meth) (g := F0 m pc ls st) (rest := rest) ⟨hx, hb, hml, hown, hts⟩ hM ⟨cb, hts _ hs⟩ ⟨PcX_blind, fun U hU hW => ⟨rfl, ⟨ho.1, by rw [hU]; exact hn, ho, by rw [hU]; exact hP, KK.warm hW ⟨hK, hAO, hNe⟩⟩, va_X.kept (H := s.heap) (va_X.moved hW.alike hX) (by rw [hU]; exact hS.2.1 b hbl (fun z => Nat.lt_irrefl b (Nat.lt_of_lt_of_le hbA z))), hbA⟩⟩ rfl hk hl.1 hst (lv_room (m := m) (pc := pc) (ls := ls) hcat) hd ⟨by omega, by omega⟩
  exact V_run hr hS hl (fun v n' M' h => by obtain ⟨rfl, rfl, rfl⟩ := h; exact kk)
theorem XR.frn {E : Ev} {M M' : Mem} {w n n' o : Nat} {A : AS} (h : XR E M w n o A) (hn : n ≤ n') (hf : ∀ q, (o ≤ q ∧ q < o + 438) ∨ (w ≤ q ∧ q < n) → M' q = M q) : XR E M' w n' o A := by
  obtain ⟨sb, ad, b, cn, ce, th, nx, ki, pa, co, fo, fr, un, da, hA, hB, hD⟩ := h
  exact ⟨sb, ad, b, cn, ce, th, nx, ki, pa, co, fo, fr, un, da, hA, hB.frm hA hD.2.2.2.2.2.2.2.1 hn (fun q hq => hf q (by omega)), hD.frm hn (fun q hq => hf q (by omega))⟩
