/-! makings -/
def NW (own : String) (idx ci N : Nat) (fs : List Value) : Prop := ∃ (C : String) (T : u_T) (ty : Nat → FieldType), vwCl[ci]? = some (C, T, N) ∧ (∀ w ∈ u_ws C T N, w ∈ tb) ∧ (∀ k, k < N → parseFieldDescriptor (T k).2.2.1 = some (ty k)) ∧ (∀ j, j < N → defaultValue (ty j) = vp_V fs j) ∧ Cond.classLink own idx C ∈ tb ∧ Cond.instantiable C N ∈ tb ∧ Cond.initialized C ∈ tb
/-- behind a making -/
theorem V.made {l : Launch} {D : va_G} {cy : Cy} {b0 : Nat} {p : Program} {e : Env} {R : Room} {s : State} {m : MethodId} {args : Array Value} {below : List Frame} {meth : Method} {c : Code} {nL : Nat} {Q : State → Prop} {nc ns n pc : Nat} {M : Mem} {lc : List (Option Value)} {st : List Value} {H H1 : Heap} {locs : List Loc} {ls : Array Slot} {e1 : va_E} (k : V (l, D, cy, b0) (p, e, R, s, m, args, below, meth, c, nL, Q) nc ns (n + 1) (va_up M n e1) pc lc st) (hn : H.size = n) (ho : MOk b0 n M) (hP : va_P D vwCl (pool b0 n M) H) (hS : va_S (fun q => b0 ≤ q) s.heap H locs) (hl : lh ls nL lc) (he : va_at D vwCl (n, e1) H1) (z : H1.size = n + 1) (o1 : ∀ q : Nat, q < n → H1[q]? = H[q]?) : W p l e R s m args below meth c H1 locs nc ns Q (F0 m pc ls st) := by
  have hk : ∀ (k : Nat) (x : Nat × va_E), (pool b0 n M)[k]? = some x → H1[x.1]? = H[x.1]? := fun k x hx => o1 x.1 (by have := (hP k x hx).lt; omega)
  have hP1 : va_P D vwCl (pool b0 n M ++ [(n, e1)]) H1 := (hP.kept hk).app (fun k q hx => by
    have hz : k < 1 := (List.getElem?_eq_some_iff.mp hx).1
    rw [show k = 0 by omega] at hx
    cases hx
    exact he)
  rw [pool_push ho.1] at hP1
  exact k H1 _ ls z (ho.push _) hP1 ⟨by have := hS.1; omega, fun x h1 h2 => (o1 x (by have := hS.1; omega)).trans (hS.2.1 x h1 h2), hS.2.2⟩ hl
theorem V.newo {E : Ev} {X : Cx} {cc : ByteArray} {own : String} {d mc ms nc ns n pc q idx ci N : Nat} {M : Mem} {lc : List (Option Value)} {st : List Value} {fs : List Value} (g : G0 E X cc own d mc ms) (hd : Dc cc pc 3 q (.new idx)) (hw : NW own idx ci N fs) (h1 : nc + 1 ≤ mc) (h2 : ns + N ≤ ms) (k : V E X (nc + 1) (ns + N) (n + 1) (va_up M n (.inr (ci, fs))) q lc (.ref n :: st)) : V E X nc ns n M pc lc st := by
  obtain ⟨l, D, cy, b0⟩ := E
  obtain ⟨p, e, R, s, m, args, below, meth, c, nL, Q⟩ := X
  obtain ⟨hx, hb, hml, hown, hts, ⟨hK, hAO, hNe⟩, hbs, hR1, hR2, hR3, hR4⟩ := g
  intro H locs ls hn ho hP hS hl
  obtain ⟨hd, rfl⟩ := hd
  obtain ⟨C, T, ty, hc, hws, hty, hfs, w1, w2, w3⟩ := hw
  have hKn := hK.1 ci _ hc
  refine W.newcK hx hb hown (hts _ w1) (hts _ w2) (hts _ w3) rfl hd (by omega) (by omega) hKn.2.1 hn fun H1 kC hkC e1 z1 o1 => ?_
  exact V.made k hn ho hP hS hl ⟨_, hc, (u_born ty hts hws hKn hkC e1 hty).to hfs⟩ z1 o1
theorem V.newi {E : Ev} {X : Cx} {cc : ByteArray} {own : String} {d mc ms nc ns n pc q : Nat} {M : Mem} {lc : List (Option Value)} {st : List Value} {z : Int} {len : Nat} (g : G0 E X cc own d mc ms) (hd : Dc cc pc 2 q (.newarray .int)) (hz : z = len) (hlen : len < 100000) (ha : Cond.arrayClass .int ∈ tb) (h1 : nc + 1 ≤ mc) (h2 : ns + len ≤ ms) (k : V E X (nc + 1) (ns + len) (n + 1) (va_up M n (ia E len (fun _ => 0))) q lc (.ref n :: st)) : V E X nc ns n M pc lc (.int (iI z) :: st) := by
  obtain ⟨l, D, cy, b0⟩ := E
  obtain ⟨p, e, R, s, m, args, below, meth, c, nL, Q⟩ := X
  obtain ⟨hx, hb, hml, hown, hts, ⟨hK, hAO, hNe⟩, hbs, hR1, hR2, hR3, hR4⟩ := g
  intro H locs ls hn ho hP hS hl
  obtain ⟨hd, rfl⟩ := hd
  subst hz
  refine va_newaK hx hb (atype := .int) (hts _ ha) rfl hd rfl (by rw [iI_nat]; exact nI_pos (by omega)) (N := len) (by rw [iI_nat]; exact nI_clamp (by omega)) (by show len * 4 ≤ 536870912; omega) (by omega) (by omega) hn fun H1 cA e1 z1 o1 hAr hNm => ?_
  have hcA : cA = cy.2.1 := Option.some.inj (hNm.symm.trans (hK.2 1 _ rfl).2)
  subst hcA
  exact V.made k hn ho hP hS hl e1 z1 o1
theorem V.newc {E : Ev} {X : Cx} {cc : ByteArray} {own : String} {d mc ms nc ns n pc q : Nat} {M : Mem} {lc : List (Option Value)} {st : List Value} {z : Int} {len : Nat} (g : G0 E X cc own d mc ms) (hd : Dc cc pc 2 q (.newarray .char)) (hz : z = len) (hlen : len < 100000) (ha : Cond.arrayClass .char ∈ tb) (h1 : nc + 1 ≤ mc) (h2 : ns + len ≤ ms) (k : V E X (nc + 1) (ns + len) (n + 1) (va_up M n (ca E len (fun _ => 0))) q lc (.ref n :: st)) : V E X nc ns n M pc lc (.int (iI z) :: st) := by
  obtain ⟨l, D, cy, b0⟩ := E
  obtain ⟨p, e, R, s, m, args, below, meth, c, nL, Q⟩ := X
  obtain ⟨hx, hb, hml, hown, hts, ⟨hK, hAO, hNe⟩, hbs, hR1, hR2, hR3, hR4⟩ := g
  intro H locs ls hn ho hP hS hl
  obtain ⟨hd, rfl⟩ := hd
  subst hz
  refine va_newaK hx hb (atype := .char) (hts _ ha) rfl hd rfl (by rw [iI_nat]; exact nI_pos (by omega)) (N := len) (by rw [iI_nat]; exact nI_clamp (by omega)) (by show len * 2 ≤ 536870912; omega) (by omega) (by omega) hn fun H1 cA e1 z1 o1 hAr hNm => ?_
  have hcA : cA = cy.1 := Option.some.inj (hNm.symm.trans (hK.2 0 _ rfl).2)
  subst hcA
  exact V.made k hn ho hP hS hl e1 z1 o1
theorem V.newr {E : Ev} {X : Cx} {cc : ByteArray} {own : String} {d mc ms nc ns n pc q idx w : Nat} {M : Mem} {lc : List (Option Value)} {st : List Value} {C : String} {z : Int} {len : Nat} (g : G0 E X cc own d mc ms) (hd : Dc cc pc 3 q (.anewarray idx)) (hw : ((tysOf E.2.2.1)[w]?).map (fun q => q.2) = some (.object C)) (hz : z = len) (hlen : len < 100000) (ha : C ∈ [RX1, RX2, RX5]) (hc1 : Cond.classLink own idx C ∈ tb) (h1 : nc + 1 ≤ mc) (h2 : ns + len ≤ ms) (k : V E X (nc + 1) (ns + len) (n + 1) (va_up M n (ra E w len (fun _ => none))) q lc (.ref n :: st)) : V E X nc ns n M pc lc (.int (iI z) :: st) := by
  obtain ⟨l, D, cy, b0⟩ := E
  obtain ⟨p, e, R, s, m, args, below, meth, c, nL, Q⟩ := X
  obtain ⟨hx, hb, hml, hown, hts, ⟨hK, hAO, hNe⟩, hbs, hR1, hR2, hR3, hR4⟩ := g
  intro H locs ls hn ho hP hS hl
  obtain ⟨hd, rfl⟩ := hd
  subst hz
  obtain ⟨⟨cA, ty⟩, hw1, hw2⟩ : ∃ z, (tysOf cy)[w]? = some z ∧ z.2 = .object C := by
    cases h9 : (tysOf cy)[w]? with
    | none => rw [h9] at hw; cases hw
    | some z => rw [h9] at hw; exact ⟨z, rfl, Option.some.inj hw⟩
  have hw2 : ty = .object C := hw2
  subst hw2
  have hcl : (iI (len : Int)).toNatClampNeg = len := by rw [iI_nat]; exact nI_clamp (by omega)
  refine W.anew hx hb hown (hts _ hc1) (va_AO.use (hAO _ ha)) rfl hd rfl (by rw [iI_nat]; exact nI_pos (by omega)) (by rw [hcl]; omega) (by omega) (by rw [hcl]; omega) fun cB kA comp f1 f2 f3 f4 => ?_
  have hcA : cB = cA := by
    obtain ⟨kA2, comp2, -, -, -, r4⟩ := (hK.2 w _ hw1).2
    exact Option.some.inj (f1.symm.trans r4)
  subst hcA
  rw [hcl, hn]
  have e9 : ra (l, D, cy, b0) w len (fun _ => none) = .inl (cB, len, .inr (.inr (.inr (.inr (fun _ : Nat => none))))) := by simp [ra, hw1]
  refine V.made k hn ho hP hS hl ?_ (by rw [Array.size_push, hn]) (fun q hq => by rw [Array.getElem?_push, if_neg (by omega)])
  rw [e9]
  show (H.push _)[n]? = some (vp_cell _ _)
  rw [vp_cell_q]
  subst hn
  rw [Array.getElem?_push_size, arrV_new]
  rfl
theorem V.oinit {E : Ev} {X : Cx} {cc : ByteArray} {own : String} {d mc ms nc ns n pc q idx a : Nat} {M : Mem} {lc : List (Option Value)} {st : List Value} (g : G0 E X cc own d mc ms) (hd : Dc cc pc 3 q (.invokespecial idx)) (h1 : Cond.methodLink own idx objectInit ∈ tb) (h2 : Cond.instanceMethod objectInit ∈ tb) (h3 : Cond.code objectInit ⟨#[0xb1]⟩ 1 none ∈ tb) (hd1 : 1 ≤ d) (hst : (st.map fun v => v.category).sum ≤ 8) (k : V E X nc ns n M q lc st) : V E X nc ns n M pc lc (.ref a :: st) := by
  obtain ⟨l, D, cy, b0⟩ := E
  obtain ⟨p, e, R, s, m, args, below, meth, c, nL, Q⟩ := X
  obtain ⟨hx, hb, hml, hown, hts, ⟨hK, hAO, hNe⟩, hbs, hR1, hR2, hR3, hR4⟩ := g
  intro H locs ls hn ho hP hS hl
  obtain ⟨hd, rfl⟩ := hd
  refine W.objInit hx hb hown (hts _ h1) (hts _ h2) (hts _ h3) rfl (by rw [hml]; exact hl.1) rfl hd (by omega) (by show 2 * 0 + _ + 12 ≤ _; omega) ?_
  exact k H locs ls hn ho hP hS hl
def cp0 (f g : Int → Int) (n : Int) : Int → Int := fun i => if 0 ≤ i ∧ i < n then f i else g i
theorem V.acopy {E : Ev} {X : Cx} {cc : ByteArray} {own : String} {d mc ms nc ns n pc q idx a a0 n0 n1 : Nat} {M : Mem} {lc : List (Option Value)} {st : List Value} {f h : Int → Int} {z : Int} (g : G0 E X cc own d mc ms) (hd : Dc cc pc 3 q (.invokestatic idx)) (w1 : Cond.methodLink own idx arraycopyName ∈ tb) (w2 : Cond.native arraycopyName ∈ tb) (w3 : Cond.static arraycopyName ∈ tb) (w4 : Cond.initialized "java/lang/System" ∈ tb) (hm0 : M a0 = ia E n0 f) (hm : M a = ia E n1 h) (hz : 0 ≤ z ∧ z < 100000) (hz0 : z ≤ n0) (hz1 : z ≤ n1) (hd1 : 2 ≤ d) (hst : (st.map fun v => v.category).sum ≤ 8) (k : V E X nc ns n (va_up M a (ia E n1 (cp0 f h z))) q lc st) : V E X nc ns n M pc lc (.int (iI z) :: .int (iI 0) :: .ref a :: .int (iI 0) :: .ref a0 :: st) := by
  obtain ⟨l, D, cy, b0⟩ := E
  obtain ⟨p, e, R, s, m, args, below, meth, c, nL, Q⟩ := X
  obtain ⟨hx, hb, hml, hown, hts, ⟨hK, hAO, hNe⟩, hbs, hR1, hR2, hR3, hR4⟩ := g
  intro H locs ls hn ho hP hS hl
  obtain ⟨hd, rfl⟩ := hd
  have ha := ho.in (a := a) (by rw [hm]; exact bad_l)
  have ha0 := ho.in (a := a0) (by rw [hm0]; exact bad_l)
  have he1 := pool_get (M := M) ha
  rw [hm] at he1
  have he0 := pool_get (M := M) ha0
  rw [hm0] at he0
  have hc0 := hP (a0 - b0) _ he0
  have hc1 := hP (a - b0) _ he1
  have hcl : (iI z).toNatClampNeg = z.toNat := iI_clamp (by omega)
  have hcl0 : (iI 0).toNatClampNeg = 0 := rfl
  have hn0 : ¬ iI z < 0 := by rw [← iI_0, iI_lt (by omega)]; omega
  have hzi : (iI z).toInt = z := iI_toInt (by omega)
  have hz00 : (iI 0).toInt = 0 := iI_toInt (by omega)
  have hnw : nativeFrameWords "java/lang/System" "arraycopy" 5 + 11 ≤ 50 := by decide +kernel
  intro T hT X
  obtain ⟨-, k0, hk0, cm0, hkk0⟩ := (hK.2 1 _ rfl).1 n0 (fun j => .int (iI (f j)))
  obtain ⟨-, k1, hk1, cm1, hkk1⟩ := (hK.2 1 _ rfl).1 n1 (fun j => .int (iI (h j)))
  obtain ⟨vm', X', step⟩ := X.arraycopy hx hown (hts _ w1) (hts _ w2) (hts _ w3) (hts _ w4) (src := a0) (dst := a) (cs := vp_cell cy.2.1 (n0, .inl (fun k : Nat => iI (f (k : Int))))) (cd := vp_cell cy.2.1 (n1, .inl (fun k : Nat => iI (h (k : Int))))) (srcPos := iI 0) (destPos := iI 0) (n := iI z) (by rw [hT]; exact hc0) (by rw [hT]; exact hc1)
    (fun _ h => by cases h) (fun _ h => by cases h) (fun h => by cases h) (fun h => by cases h) hk0 hk1 hkk0 hkk1 (by simp [refKind]) (by decide) (by decide) hn0
    (by rw [hz00, hzi]; show ¬ _ > ((arrV _ n0 (fun j => .int (iI (f j)))).slots.size : Int); rw [arrV_size]; omega)
    (by rw [hz00, hzi]; show ¬ _ > ((arrV _ n1 (fun j => .int (iI (h j)))).slots.size : Int); rw [arrV_size]; omega)
    (fun vm₁ _ i hi => by
      rw [hcl] at hi
      have e9 : (vp_cell cy.2.1 (n0, .inl (fun k : Nat => iI (f (k : Int))))).slots.getD ((iI 0).toNatClampNeg + i) .null = .int (iI (f (i : Int))) := by
        rw [hcl0, Nat.zero_add]
        show (arrV _ n0 (fun j => .int (iI (f j)))).slots.getD _ _ = _
        rw [Array.getD_eq_getD_getElem?, arrV_read _ _ (by omega)]
        rfl
      refine ⟨?_, ?_⟩
      · rw [e9]; rfl
      · rw [e9]; exact trivial)
    (g := F0 m pc ls (.int (iI z) :: .int (iI 0) :: .ref a :: .int (iI 0) :: .ref a0 :: st)) rfl (by rw [hml]; exact hl.1) (rest := st) rfl (by rw [hb]; exact hd) (by omega) (by show 2 * 0 + _ + _ ≤ _; omega)
  have e1 : copied (vp_cell cy.2.1 (n0, .inl (fun k : Nat => iI (f (k : Int))))) (vp_cell cy.2.1 (n1, .inl (fun k : Nat => iI (h (k : Int))))) (iI 0) (iI 0) (iI z) = vp_cell cy.2.1 (n1, .inl (fun k : Nat => iI (cp0 f h z (k : Int)))) := by
    rw [show copied (vp_cell cy.2.1 (n0, .inl (fun k : Nat => iI (f (k : Int))))) (vp_cell cy.2.1 (n1, .inl (fun k : Nat => iI (h (k : Int))))) (iI 0) (iI 0) (iI z) = _ from va_copied (fun z => .int z) cy.2.1 cy.2.1 (fun k : Nat => iI (f (k : Int))) (fun k : Nat => iI (h (k : Int))) (by rw [hcl, hcl0]; omega)]
    show (arrV cy.2.1 n1 fun j => Value.int _) = arrV cy.2.1 n1 (fun j => Value.int (iI (cp0 f h z (j : Int))))
    congr 1
    funext i
    congr 1
    rw [hcl, hcl0]
    unfold va_cpy cp0
    by_cases hi : i < z.toNat
    · rw [if_pos (by omega), if_pos (by omega)]; simp
    · rw [if_neg (by omega), if_neg (by omega)]
  rw [e1] at X' step
  have hlt : a < H.size := by omega
  have hheap : ((T.setVm vm').setCell a (vp_cell cy.2.1 (n1, .inl (fun k : Nat => iI (cp0 f h z (k : Int)))))).heap = H.setIfInBounds a (vp_cell cy.2.1 (n1, .inl (fun k : Nat => iI (cp0 f h z (k : Int))))) := by rw [← hT]; rfl
  have oq : ∀ q : Nat, q ≠ a → (H.setIfInBounds a (vp_cell cy.2.1 (n1, .inl (fun k : Nat => iI (cp0 f h z (k : Int))))))[q]? = H[q]? := fun q hq => by simp [Array.getElem?_setIfInBounds, Ne.symm hq]
  have hP1 := hP.set (pool_D b0 n M) (e := ia (l, D, cy, b0) n1 (cp0 f h z)) (pool_get ha) (show (H.setIfInBounds a _)[a]? = some _ by simp [Array.getElem?_setIfInBounds, hlt]) oq
  rw [pool_set ha] at hP1
  obtain ⟨t, a1, b1⟩ := k _ _ ls (by simp [hn]) (ho.up ha _) hP1 ⟨by simp; exact hS.1, fun q g1 g2 => by
      rw [oq q (fun e => g2 (by rw [e]; exact ha.1))]
      exact hS.2.1 q g1 g2, fun q hq => by
      rcases List.mem_append.mp hq with h | h
      · exact hS.2.2 q h
      · obtain ⟨z, -, hz⟩ := List.mem_map.mp h
        rw [← hz]
        exact ha.1⟩ hl _ hheap X'
  exact ⟨t, step t a1, b1⟩
/-! returns -/
theorem V.iret {E : Ev} {X : Cx} {cc : ByteArray} {y : MethodName} {d mc ms nc ns n pc : Nat} {M : Mem} {lc : List (Option Value)} {x : Int32} {Po : Option Value → Nat → Mem → Prop} (g : G E X cc y (some .int) d mc ms Po) (hd : decode cc pc = .ok (.ireturn, 1)) (h1 : nc ≤ mc) (h2 : ns ≤ ms) (hp : Po (some (.int x)) n M) : V E X nc ns n M pc lc [.int x] := by
  obtain ⟨l, D, cy, b0⟩ := E
  obtain ⟨p, e, R, s, m, args, below, meth, c, nL, Q⟩ := X
  obtain ⟨⟨hx, hb, hml, hown, hts, ⟨hK, hAO, hNe⟩, hbs, hR1, hR2, hR3, hR4⟩, hlk, hr, hnm, rfl⟩ := g
  intro H locs ls hn ho hP hS hl
  refine W.widen h1 h2 ?_
  exact W.iret hx hb hr (fun t ht hW => ⟨⟨_, n, M, rfl, hp, by rw [ht]; exact hn, ho, by rw [ht]; exact hP, KK.warm hW ⟨hK, hAO, hNe⟩⟩, hS.F ht⟩) hS.2.2 hd hlk
theorem V.zret {E : Ev} {X : Cx} {cc : ByteArray} {y : MethodName} {d mc ms nc ns n pc : Nat} {M : Mem} {lc : List (Option Value)} {z : Int} {Po : Option Value → Nat → Mem → Prop} (g : G E X cc y (some .boolean) d mc ms Po) (hd : decode cc pc = .ok (.ireturn, 1)) (hz : z = 0 ∨ z = 1) (h1 : nc ≤ mc) (h2 : ns ≤ ms) (hp : Po (some (.int (iI z))) n M) : V E X nc ns n M pc lc [.int (iI z)] := by
  obtain ⟨l, D, cy, b0⟩ := E
  obtain ⟨p, e, R, s, m, args, below, meth, c, nL, Q⟩ := X
  obtain ⟨⟨hx, hb, hml, hown, hts, ⟨hK, hAO, hNe⟩, hbs, hR1, hR2, hR3, hR4⟩, hlk, hr, hnm, rfl⟩ := g
  intro H locs ls hn ho hP hS hl
  refine W.widen h1 h2 ?_
  exact W.zret hx hb hr (by rcases hz with rfl | rfl <;> decide) (fun t ht hW => ⟨⟨_, n, M, rfl, hp, by rw [ht]; exact hn, ho, by rw [ht]; exact hP, KK.warm hW ⟨hK, hAO, hNe⟩⟩, hS.F ht⟩) hS.2.2 hd hlk
theorem V.vret {E : Ev} {X : Cx} {cc : ByteArray} {y : MethodName} {d mc ms nc ns n pc : Nat} {M : Mem} {lc : List (Option Value)} {Po : Option Value → Nat → Mem → Prop} (g : G E X cc y none d mc ms Po) (hd : decode cc pc = .ok (.return_, 1)) (h1 : nc ≤ mc) (h2 : ns ≤ ms) (hp : Po none n M) : V E X nc ns n M pc lc [] := by
  obtain ⟨l, D, cy, b0⟩ := E
  obtain ⟨p, e, R, s, m, args, below, meth, c, nL, Q⟩ := X
  obtain ⟨⟨hx, hb, hml, hown, hts, ⟨hK, hAO, hNe⟩, hbs, hR1, hR2, hR3, hR4⟩, hlk, hr, hnm, rfl⟩ := g
  intro H locs ls hn ho hP hS hl
  refine W.widen h1 h2 ?_
  exact W.vret hx hb hr (fun t ht hW => ⟨⟨_, n, M, rfl, hp, by rw [ht]; exact hn, ho, by rw [ht]; exact hP, KK.warm hW ⟨hK, hAO, hNe⟩⟩, hS.F ht⟩) hS.2.2 hd hlk
theorem V.aret {E : Ev} {X : Cx} {cc : ByteArray} {y : MethodName} {d mc ms nc ns n pc : Nat} {M : Mem} {lc : List (Option Value)} {C : String} {v : Value} {Po : Option Value → Nat → Mem → Prop} (g : G E X cc y (some (.object C)) d mc ms Po) (hd : decode cc pc = .ok (.areturn, 1)) (hv : v = .null ∨ ∃ a, v = .ref a) (h1 : nc ≤ mc) (h2 : ns ≤ ms) (hp : Po (some v) n M) : V E X nc ns n M pc lc [v] := by
  obtain ⟨l, D, cy, b0⟩ := E
  obtain ⟨p, e, R, s, m, args, below, meth, c, nL, Q⟩ := X
  obtain ⟨⟨hx, hb, hml, hown, hts, ⟨hK, hAO, hNe⟩, hbs, hR1, hR2, hR3, hR4⟩, hlk, hr, hnm, rfl⟩ := g
  intro H locs ls hn ho hP hS hl
  refine W.widen h1 h2 ?_
  exact W.aret hx hb hr (Or.inl ⟨C, rfl⟩) hv (fun t ht hW => ⟨⟨_, n, M, rfl, hp, by rw [ht]; exact hn, ho, by rw [ht]; exact hP, KK.warm hW ⟨hK, hAO, hNe⟩⟩, hS.F ht⟩) hS.2.2 hd hlk
/-! calls -/
def KY (y : MethodName) (bytes : ByteArray) (nL : Nat) (ret : Option FieldType) (k : Nat) : Prop := (y.cls ≠ "java/lang/invoke/MethodHandle" ∧ y.cls ≠ "java/lang/invoke/VarHandle" ∧ (parseMethodDescriptor y.desc).map (fun d => d.parameters.length) = some k) ∧ Cond.code y bytes nL ret ∈ tb ∧ Cond.initialized y.cls ∈ tb ∧ nL ≤ 11
theorem wd_good {y : MethodName} {bytes : ByteArray} {nL : Nat} {ret : Option FieldType} (h : Cond.code y bytes nL ret ∈ tb) : GoodIn tb (wd y bytes nL ret) := fun w hw => by
  rcases List.mem_cons.mp hw with rfl | hw
  · exact tb_good _ h
  · exact tb_good w hw
theorem Pc_blind {E : Ev} {as : List Value} {n : Nat} {M : Mem} : FrameBlind (va_Pc as (fun U => E.2.2.2 ≤ n ∧ U.heap.size = n ∧ MOk E.2.2.2 n M ∧ va_P E.2.1 vwCl (pool E.2.2.2 n M) U.heap ∧ KK E.2.1 E.2.2.1 U)) := fun a U g mk h => by
  obtain ⟨h0, h1, h2, h3, h4, h5⟩ := h
  exact ⟨h0, h1, h2, h3, h4, KK.warm (s := U) (U := U.calling g mk a) (State.WarmedH.refl U) h5⟩
theorem V_run {l : Launch} {D : va_G} {cy : Cy} {b0 : Nat} {p : Program} {e : Env} {R : Room} {s : State} {m : MethodId} {args : Array Value} {below : List Frame} {meth : Method} {c : Code} {nL : Nat} {Q : State → Prop} {nc ns mc ms pc : Nat} {lc : List (Option Value)} {st rest : List Value} {H : Heap} {locs : List Loc} {ls : Array Slot} {a : Array Value} {Po : Option Value → Nat → Mem → Prop} (hr : va_Run p l e R s m args below meth c H locs nc ns mc ms (F0 m pc ls st) rest (QQ (l, D, cy, b0) Po a) (fun q => b0 ≤ q)) (hS : va_S (fun q => b0 ≤ q) s.heap H locs) (hl : lh ls nL lc)
    (kk : ∀ (v : Option Value) (n' : Nat) (M' : Mem), Po v n' M' → V (l, D, cy, b0) (p, e, R, s, m, args, below, meth, c, nL, Q) (nc + mc) (ns + ms) n' M' (pc + 3) lc (v.toList ++ rest)) : W p l e R s m args below meth c H locs nc ns Q (F0 m pc ls st) := by
  intro T hT X
  obtain ⟨v, st₀, t, T', L, h0, X', hL, e1, e2, ⟨⟨v', n', M', hv, hp, hz0, ho, hP, hK⟩, hz, hk⟩, stp⟩ := hr T hT X
  cases hv
  rw [h0] at hz hk
  obtain ⟨t2, a1, b1⟩ := kk v n' M' hp T'.heap (locs ++ L) ls (by rw [e1]; exact hz0) ho (by rw [e1]; exact hP)
    ⟨Nat.le_trans hS.1 (by rw [e1]; exact hz), fun q h1 h2 => by rw [e1, hk q (Nat.lt_of_lt_of_le h1 hS.1) (fun z => h2 z)]; exact hS.2.1 q h1 h2, fun q hq => by
      rcases List.mem_append.mp hq with h | h
      · exact hS.2.2 q h
      · exact hL q h⟩ hl T' rfl X'
  exact ⟨t2, stp t2 a1, b1⟩
section
variable {E : Ev} {X : Cx} {cc bytes : ByteArray} {own : String} {d mc ms nc ns n pc q idx d' mc' ms' nLy k : Nat} {M : Mem} {lc : List (Option Value)} {st rest as : List Value} {y : MethodName} {rety : Option FieldType} {Po : Option Value → Nat → Mem → Prop}
theorem V.callS (g : G0 E X cc own d mc ms) (hM : MT E y bytes nLy rety d' mc' ms' as n M Po) (hy : KY y bytes nLy rety k) (hs : Cond.static y ∈ tb) (hlk : Cond.methodLink own idx y ∈ tb) (hdd : d' + 1 ≤ d) (hmc : nc + mc' ≤ mc ∧ ns + ms' ≤ ms) (hst : st = as.reverse ++ rest) (hk : as.length = k) (hcat : (rest.map fun v => v.category).sum ≤ 8) (hd : Dc cc pc 3 q (.invokestatic idx)) (kk : ∀ (v : Option Value) (n' : Nat) (M' : Mem), Po v n' M' → V E X (nc + mc') (ns + ms') n' M' q lc (v.toList ++ rest)) : V E X nc ns n M pc lc st := by
  obtain ⟨l, D, cy, b0⟩ := E
  obtain ⟨p, e, R, s, m, args, below, meth, c, nL, Q⟩ := X
  obtain ⟨hx, hb, hml, hown, hts, ⟨hK, hAO, hNe⟩, hbs, hR1, hR2, hR3, hR4⟩ := g
  intro H locs ls hn ho hP hS hl
  obtain ⟨hd, rfl⟩ := hd
  obtain ⟨hy1, hy2, hy3, hy4⟩ := hy
  have cb := callB_of (R := R) (rm := ⟨d', mc', ms', 30 * d'⟩) (mc := mc') (ms := ms') k hts (wd_good hy2) rfl rfl rfl (hts _ hy3) (hts _ hlk) hy1 ⟨by show d' + 1 ≤ _; omega, by show _ + 30 * d' ≤ _; omega⟩
  have hr := va_runS (H := H) (locs := locs) (cells := nc) (slots := ns) (e := e) (R := R) (below := below) (meth := meth) (g := F0 m pc ls st) (rest := rest) ⟨hx, hb, hml, hown, hts⟩ hM ⟨cb, hts _ hs⟩ ⟨Pc_blind, fun U hU hW => ⟨rfl, ho.1, by rw [hU]; exact hn, ho, by rw [hU]; exact hP, KK.warm hW ⟨hK, hAO, hNe⟩⟩⟩ rfl hk hl.1 hst (lv_room (m := m) (pc := pc) (ls := ls) hcat) hd ⟨by omega, by omega⟩
  exact V_run hr hS hl kk
theorem V.callSN {host : String} (g : G0 E X cc own d mc ms) (hM : MT E y bytes nLy rety d' mc' ms' as n M Po) (hy : KY y bytes nLy rety k) (hs : Cond.static y ∈ tb) (hlk : (own, idx, y, host) ∈ nests) (hdd : d' + 1 ≤ d) (hmc : nc + mc' ≤ mc ∧ ns + ms' ≤ ms) (hst : st = as.reverse ++ rest) (hk : as.length = k) (hcat : (rest.map fun v => v.category).sum ≤ 8) (hd : Dc cc pc 3 q (.invokestatic idx)) (kk : ∀ (v : Option Value) (n' : Nat) (M' : Mem), Po v n' M' → V E X (nc + mc') (ns + ms') n' M' q lc (v.toList ++ rest)) : V E X nc ns n M pc lc st := by
  obtain ⟨l, D, cy, b0⟩ := E
  obtain ⟨p, e, R, s, m, args, below, meth, c, nL, Q⟩ := X
  obtain ⟨hx, hb, hml, hown, hts, ⟨hK, hAO, hNe⟩, hbs, hR1, hR2, hR3, hR4⟩ := g
  intro H locs ls hn ho hP hS hl
  obtain ⟨hd, rfl⟩ := hd
  obtain ⟨hy1, hy2, hy3, hy4⟩ := hy
  have cb := va_cnB (R := R) (args := args) (rm := ⟨d', mc', ms', 30 * d'⟩) (mc := mc') (ms := ms') k hts (wd_good hy2) rfl rfl rfl (hNe _ hlk) (hts _ hy3) hy1 ⟨by show d' + 1 ≤ _; omega, by show _ + 30 * d' ≤ _; omega⟩
  have hr := va_runSN (H := H) (locs := locs) (cells := nc) (slots := ns) (e := e) (R := R) (below := below) (meth := meth) (g := F0 m pc ls st) (rest := rest) ⟨hx, hb, hml, hown, hts⟩ hM ⟨cb, hts _ hs, trivial⟩ ⟨Pc_blind, fun U hU hW => ⟨rfl, ho.1, by rw [hU]; exact hn, ho, by rw [hU]; exact hP, KK.warm hW ⟨hK, hAO, hNe⟩⟩⟩ rfl hk hl.1 hst (lv_room (m := m) (pc := pc) (ls := ls) hcat) hd ⟨by omega, by omega⟩
  exact V_run hr hS hl kk
theorem V.callV {a ci : Nat} {r : vw_C} {fs : List Value} (g : G0 E X cc own d mc ms) (hM : MT E y bytes nLy rety d' mc' ms' (.ref a :: as) n M Po) (hy : KY y bytes nLy rety k) (hi : Cond.instanceMethod y ∈ tb) (hsl : Cond.selects y.cls y y ∈ tb) (hlk : Cond.methodLink own idx y ∈ tb) (hm : M a = .inr (ci, fs)) (hc : vwCl[ci]? = some r) (hrc : r.1 = y.cls) (hdd : d' + 1 ≤ d) (hmc : nc + mc' ≤ mc ∧ ns + ms' ≤ ms) (hst : st = as.reverse ++ .ref a :: rest) (hk : as.length = k) (hcat : (rest.map fun v => v.category).sum ≤ 8) (hd : Dc cc pc 3 q (.invokevirtual idx)) (kk : ∀ (v : Option Value) (n' : Nat) (M' : Mem), Po v n' M' → V E X (nc + mc') (ns + ms') n' M' q lc (v.toList ++ rest)) : V E X nc ns n M pc lc st := by
  obtain ⟨l, D, cy, b0⟩ := E
  obtain ⟨p, e, R, s, m, args, below, meth, c, nL, Q⟩ := X
  obtain ⟨hx, hb, hml, hown, hts, ⟨hK, hAO, hNe⟩, hbs, hR1, hR2, hR3, hR4⟩ := g
  intro H locs ls hn ho hP hS hl
  obtain ⟨hd, rfl⟩ := hd
  obtain ⟨hy1, hy2, hy3, hy4⟩ := hy
  have ha := ho.in (a := a) (by rw [hm]; exact bad_r (vw_lt hc))
  have he := pool_get (M := M) ha
  rw [hm] at he
  have cb := callB_of (R := R) (rm := ⟨d', mc', ms', 30 * d'⟩) (mc := mc') (ms := ms') k hts (wd_good hy2) rfl rfl rfl (hts _ hy3) (hts _ hlk) hy1 ⟨by show d' + 1 ≤ _; omega, by show _ + 30 * d' ≤ _; omega⟩
  have hr := va_runV (H := H) (locs := locs) (cells := nc) (slots := ns) (e := e) (R := R) (below := below) (meth := meth) (g := F0 m pc ls st) (rest := rest) ⟨hx, hb, hml, hown, hts⟩ hM ⟨cb, hts _ hi, hts _ hsl⟩ ⟨Pc_blind, by rw [← hrc]; exact va_recv hK hP hc he, fun U hU hW => ⟨rfl, ho.1, by rw [hU]; exact hn, ho, by rw [hU]; exact hP, KK.warm hW ⟨hK, hAO, hNe⟩⟩⟩ rfl hk hl.1 hst (lv_room (m := m) (pc := pc) (ls := ls) hcat) hd ⟨by omega, by omega⟩
  exact V_run hr hS hl kk
theorem V.callI {a : Nat} (g : G0 E X cc own d mc ms) (hM : MT E y bytes nLy none d' mc' ms' (.ref a :: as) n M Po) (hy : KY y bytes nLy none k) (hi : Cond.instanceMethod y ∈ tb) (hnm : y.name = "<init>") (hlk : Cond.methodLink own idx y ∈ tb) (hdd : d' + 1 ≤ d) (hmc : nc + mc' ≤ mc ∧ ns + ms' ≤ ms) (hst : st = as.reverse ++ .ref a :: rest) (hk : as.length = k) (hcat : (rest.map fun v => v.category).sum ≤ 8) (hd : Dc cc pc 3 q (.invokespecial idx)) (kk : ∀ (v : Option Value) (n' : Nat) (M' : Mem), Po v n' M' → V E X (nc + mc') (ns + ms') n' M' q lc (v.toList ++ rest)) : V E X nc ns n M pc lc st := by
  obtain ⟨l, D, cy, b0⟩ := E
  obtain ⟨p, e, R, s, m, args, below, meth, c, nL, Q⟩ := X
  obtain ⟨hx, hb, hml, hown, hts, ⟨hK, hAO, hNe⟩, hbs, hR1, hR2, hR3, hR4⟩ := g
  intro H locs ls hn ho hP hS hl
  obtain ⟨hd, rfl⟩ := hd
  obtain ⟨hy1, hy2, hy3, hy4⟩ := hy
  have cb := callB_of (R := R) (rm := ⟨d', mc', ms', 30 * d'⟩) (mc := mc') (ms := ms') k hts (wd_good hy2) rfl rfl rfl (hts _ hy3) (hts _ hlk) hy1 ⟨by show d' + 1 ≤ _; omega, by show _ + 30 * d' ≤ _; omega⟩
  have hr := va_runI (H := H) (locs := locs) (cells := nc) (slots := ns) (e := e) (R := R) (below := below) (meth := meth) (g := F0 m pc ls st) (rest := rest) ⟨hx, hb, hml, hown, hts⟩ hM ⟨cb, hnm, hts _ hi⟩ ⟨Pc_blind, fun U hU hW => ⟨rfl, ho.1, by rw [hU]; exact hn, ho, by rw [hU]; exact hP, KK.warm hW ⟨hK, hAO, hNe⟩⟩⟩ rfl hk hl.1 hst (lv_room (m := m) (pc := pc) (ls := ls) hcat) hd ⟨by omega, by omega⟩
  exact V_run hr hS hl kk
/-- calls whose contract tells an answer, and that nothing else changes -/
theorem V.callSp {w : Value} (g : G0 E X cc own d mc ms) (hM : MT E y bytes nLy rety d' 0 0 as n M (PF (some w) n M)) (hy : KY y bytes nLy rety k) (hs : Cond.static y ∈ tb) (hlk : Cond.methodLink own idx y ∈ tb) (hdd : d' + 1 ≤ d) (hmc : nc ≤ mc ∧ ns ≤ ms) (hst : st = as.reverse ++ rest) (hk : as.length = k) (hcat : (rest.map fun v => v.category).sum ≤ 8) (hd : Dc cc pc 3 q (.invokestatic idx)) (kk : V E X nc ns n M q lc (w :: rest)) : V E X nc ns n M pc lc st :=
  V.callS g hM hy hs hlk hdd hmc hst hk hcat hd (fun v n' M' h => by obtain ⟨rfl, rfl, rfl⟩ := h; exact kk)
theorem V.callSNp {host : String} {w : Value} (g : G0 E X cc own d mc ms) (hM : MT E y bytes nLy rety d' 0 0 as n M (PF (some w) n M)) (hy : KY y bytes nLy rety k) (hs : Cond.static y ∈ tb) (hlk : (own, idx, y, host) ∈ nests) (hdd : d' + 1 ≤ d) (hmc : nc ≤ mc ∧ ns ≤ ms) (hst : st = as.reverse ++ rest) (hk : as.length = k) (hcat : (rest.map fun v => v.category).sum ≤ 8) (hd : Dc cc pc 3 q (.invokestatic idx)) (kk : V E X nc ns n M q lc (w :: rest)) : V E X nc ns n M pc lc st :=
  V.callSN g hM hy hs hlk hdd hmc hst hk hcat hd (fun v n' M' h => by obtain ⟨rfl, rfl, rfl⟩ := h; exact kk)
theorem V.callVp {a ci : Nat} {r : vw_C} {fs : List Value} {w : Value} (g : G0 E X cc own d mc ms) (hM : MT E y bytes nLy rety d' 0 0 (.ref a :: as) n M (PF (some w) n M)) (hy : KY y bytes nLy rety k) (hi : Cond.instanceMethod y ∈ tb) (hsl : Cond.selects y.cls y y ∈ tb) (hlk : Cond.methodLink own idx y ∈ tb) (hm : M a = .inr (ci, fs)) (hc : vwCl[ci]? = some r) (hrc : r.1 = y.cls) (hdd : d' + 1 ≤ d) (hmc : nc ≤ mc ∧ ns ≤ ms) (hst : st = as.reverse ++ .ref a :: rest) (hk : as.length = k) (hcat : (rest.map fun v => v.category).sum ≤ 8) (hd : Dc cc pc 3 q (.invokevirtual idx)) (kk : V E X nc ns n M q lc (w :: rest)) : V E X nc ns n M pc lc st :=
  V.callV g hM hy hi hsl hlk hm hc hrc hdd hmc hst hk hcat hd (fun v n' M' h => by obtain ⟨rfl, rfl, rfl⟩ := h; exact kk)
end
/-- a method of more locals than eleven -/
def KY2 (y : MethodName) (bytes : ByteArray) (nL : Nat) (ret : Option FieldType) (k : Nat) : Prop := (y.cls ≠ "java/lang/invoke/MethodHandle" ∧ y.cls ≠ "java/lang/invoke/VarHandle" ∧ (parseMethodDescriptor y.desc).map (fun d => d.parameters.length) = some k) ∧ Cond.code y bytes nL ret ∈ tb ∧ Cond.initialized y.cls ∈ tb ∧ nL ≤ 41
section
variable {E : Ev} {X : Cx} {cc bytes : ByteArray} {own : String} {d mc ms nc ns n pc q idx d' mc' ms' nLy k : Nat} {M : Mem} {lc : List (Option Value)} {st rest as : List Value} {y : MethodName} {rety : Option FieldType} {Po : Option Value → Nat → Mem → Prop}
theorem V.callS2 (g : G0 E X cc own d mc ms) (hM : MT E y bytes nLy rety d' mc' ms' as n M Po) (hy : KY2 y bytes nLy rety k) (hs : Cond.static y ∈ tb) (hlk : Cond.methodLink own idx y ∈ tb) (hdd : d' + 2 ≤ d) (hmc : nc + mc' ≤ mc ∧ ns + ms' ≤ ms) (hst : st = as.reverse ++ rest) (hk : as.length = k) (hcat : (rest.map fun v => v.category).sum ≤ 8) (hd : Dc cc pc 3 q (.invokestatic idx)) (kk : ∀ (v : Option Value) (n' : Nat) (M' : Mem), Po v n' M' → V E X (nc + mc') (ns + ms') n' M' q lc (v.toList ++ rest)) : V E X nc ns n M pc lc st := by
  obtain ⟨l, D, cy, b0⟩ := E
  obtain ⟨p, e, R, s, m, args, below, meth, c, nL, Q⟩ := X
  obtain ⟨hx, hb, hml, hown, hts, ⟨hK, hAO, hNe⟩, hbs, hR1, hR2, hR3, hR4⟩ := g
  intro H locs ls hn ho hP hS hl
  obtain ⟨hd, rfl⟩ := hd
  obtain ⟨hy1, hy2, hy3, hy4⟩ := hy
  have cb := callB_of (R := R) (rm := ⟨d', mc', ms', 30 * d'⟩) (mc := mc') (ms := ms') k hts (wd_good hy2) rfl rfl rfl (hts _ hy3) (hts _ hlk) hy1 ⟨by show d' + 1 ≤ _; omega, by show _ + 30 * d' ≤ _; omega⟩
  have hr := va_runS (H := H) (locs := locs) (cells := nc) (slots := ns) (e := e) (R := R) (below := below) (meth := meth) (g := F0 m pc ls st) (rest := rest) ⟨hx, hb, hml, hown, hts⟩ hM ⟨cb, hts _ hs⟩ ⟨Pc_blind, fun U hU hW => ⟨rfl, ho.1, by rw [hU]; exact hn, ho, by rw [hU]; exact hP, KK.warm hW ⟨hK, hAO, hNe⟩⟩⟩ rfl hk hl.1 hst (lv_room (m := m) (pc := pc) (ls := ls) hcat) hd ⟨by omega, by omega⟩
  exact V_run hr hS hl kk
theorem V.callS2p {w : Value} (g : G0 E X cc own d mc ms) (hM : MT E y bytes nLy rety d' 0 0 as n M (PF (some w) n M)) (hy : KY2 y bytes nLy rety k) (hs : Cond.static y ∈ tb) (hlk : Cond.methodLink own idx y ∈ tb) (hdd : d' + 2 ≤ d) (hmc : nc ≤ mc ∧ ns ≤ ms) (hst : st = as.reverse ++ rest) (hk : as.length = k) (hcat : (rest.map fun v => v.category).sum ≤ 8) (hd : Dc cc pc 3 q (.invokestatic idx)) (kk : V E X nc ns n M q lc (w :: rest)) : V E X nc ns n M pc lc st :=
  V.callS2 g hM hy hs hlk hdd hmc hst hk hcat hd (fun v n' M' h => by obtain ⟨rfl, rfl, rfl⟩ := h; exact kk)
end
