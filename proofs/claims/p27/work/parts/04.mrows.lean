/-! fields -/
def FL (own : String) (idx ci k : Nat) : Prop := ∃ (C : String) (T : u_T) (N : Nat), vwCl[ci]? = some (C, T, N) ∧ k < N ∧ (∀ w ∈ u_ws C T N, w ∈ tb) ∧ (T k).1 = C ∧ Cond.fieldLink own idx C (T k).2.1 (T k).2.2.1 ∈ tb
def FP (own : String) (idx ci k : Nat) (fin : Bool) (ty : FieldType) : Prop := ∃ (C : String) (T : u_T) (N : Nat) (ty0 : Nat → FieldType), vwCl[ci]? = some (C, T, N) ∧ k < N ∧ (∀ w ∈ u_ws C T N, w ∈ tb) ∧ (T k).1 = C ∧ Cond.fieldLink own idx C (T k).2.1 (T k).2.2.1 ∈ tb ∧ (∀ k, k < N → parseFieldDescriptor (T k).2.2.1 = some (ty0 k)) ∧ (∀ a, a < N → ∀ b, b < N → a ≠ b → (T a).2.1 ≠ (T b).2.1) ∧ (T k).2.2.2 = fin ∧ ty0 k = ty
theorem vw_lt {ci : Nat} {q : vw_C} (h : vwCl[ci]? = some q) : ci < 8 := Nat.lt_trans (List.getElem?_eq_some_iff.mp h).1 (by decide)
theorem V.ok {E : Ev} {X : Cx} {nc ns n pc : Nat} {M : Mem} {lc : List (Option Value)} {st : List Value} (k : MOk E.2.2.2 n M → V E X nc ns n M pc lc st) : V E X nc ns n M pc lc st := by
  obtain ⟨l, D, cy, b0⟩ := E
  obtain ⟨p, e, R, s, m, args, below, meth, c, nL, Q⟩ := X
  intro H locs ls hn ho hP hS hl
  exact k ho H locs ls hn ho hP hS hl
theorem V.eqM {E : Ev} {X : Cx} {nc ns n pc : Nat} {M M' : Mem} {lc : List (Option Value)} {st : List Value} (h : M = M') (k : V E X nc ns n M' pc lc st) : V E X nc ns n M pc lc st := h ▸ k
theorem V.eqL {E : Ev} {X : Cx} {nc ns n pc : Nat} {M : Mem} {lc lc' : List (Option Value)} {st : List Value} (h : lc' = lc) (k : V E X nc ns n M pc lc' st) : V E X nc ns n M pc lc st := h ▸ k
theorem V.getf {E : Ev} {X : Cx} {cc : ByteArray} {own : String} {d mc ms nc ns n pc q idx ci j a : Nat} {M : Mem} {lc : List (Option Value)} {st : List Value} {fs : List Value} {w : Value} (g : G0 E X cc own d mc ms) (hd : Dc cc pc 3 q (.getfield idx)) (hf : FL own idx ci j) (hm : M a = .inr (ci, fs)) (hw : fs[j]? = some w) (k : V E X nc ns n M q lc (w :: st)) : V E X nc ns n M pc lc (.ref a :: st) := by
  obtain ⟨l, D, cy, b0⟩ := E
  obtain ⟨p, e, R, s, m, args, below, meth, c, nL, Q⟩ := X
  obtain ⟨hx, hb, hml, hown, hts, ⟨hK, hAO, hNe⟩, hbs, hR1, hR2, hR3, hR4⟩ := g
  intro H locs ls hn ho hP hS hl
  obtain ⟨hd, rfl⟩ := hd
  obtain ⟨C, T, N, hc, hj, hws, hC, hlk⟩ := hf
  have ha := ho.in (a := a) (by rw [hm]; exact bad_r (vw_lt hc))
  have he := pool_get (M := M) ha
  rw [hm] at he
  exact va_get hx hb hts hws hown hK hP (a - b0) he hc j hj (hts _ hlk) (fun x h9 => by rw [hC] at h9; exact h9) hw hd (k H locs ls hn ho hP hS hl)
/-- behind a store into one cell -/
theorem V.stored {l : Launch} {D : va_G} {cy : Cy} {b0 : Nat} {p : Program} {e : Env} {R : Room} {s : State} {m : MethodId} {args : Array Value} {below : List Frame} {meth : Method} {c : Code} {nL : Nat} {Q : State → Prop} {nc ns n pc a i : Nat} {M : Mem} {lc : List (Option Value)} {st : List Value} {H H1 : Heap} {locs : List Loc} {ls : Array Slot} {e1 : va_E} (k : V (l, D, cy, b0) (p, e, R, s, m, args, below, meth, c, nL, Q) nc ns n (va_up M a e1) pc lc st) (hn : H.size = n) (ho : MOk b0 n M) (hP : va_P D vwCl (pool b0 n M) H) (hS : va_S (fun q => b0 ≤ q) s.heap H locs) (hl : lh ls nL lc) (ha : b0 ≤ a ∧ a < n) (he : va_at D vwCl (a, e1) H1) (z : H1.size = H.size) (oq : ∀ q : Nat, q ≠ a → H1[q]? = H[q]?) : W p l e R s m args below meth c H1 (locs ++ [⟨a, i⟩]) nc ns Q (F0 m pc ls st) := by
  have hP1 := hP.set (pool_D b0 n M) (pool_get ha) he oq
  rw [pool_set ha] at hP1
  exact k H1 _ ls (z.trans hn) (ho.up ha _) hP1 (hS.put z oq ha.1) hl
theorem V.putf {E : Ev} {X : Cx} {cc : ByteArray} {own : String} {d mc ms nc ns n pc q : Nat} {M : Mem} {lc : List (Option Value)} {st : List Value} {idx ci j a : Nat} {fs : List Value} {w : Value} {ty : FieldType} (g : G0 E X cc own d mc ms) (hd : Dc cc pc 3 q (.putfield idx)) (hf : FP own idx ci j false ty) (hm : M a = .inr (ci, fs)) (hj2 : j < fs.length) (hn1 : narrow ty w = w) (hn2 : fits ty w = true) (k : V E X nc ns n (va_up M a (.inr (ci, fs.set j w))) q lc st) : V E X nc ns n M pc lc (w :: .ref a :: st) := by
  obtain ⟨l, D, cy, b0⟩ := E
  obtain ⟨p, e, R, s, m, args, below, meth, c, nL, Q⟩ := X
  obtain ⟨hx, hb, hml, hown, hts, ⟨hK, hAO, hNe⟩, hbs, hR1, hR2, hR3, hR4⟩ := g
  intro H locs ls hn ho hP hS hl
  obtain ⟨hd, rfl⟩ := hd
  obtain ⟨C, T, N, ty0, hc, hj, hws, hC, hlk, hty, hnm, hfin, hty2⟩ := hf
  have ha := ho.in (a := a) (by rw [hm]; exact bad_r (vw_lt hc))
  have he := pool_get (M := M) ha
  rw [hm] at he
  have hap := va_apart (own := own) hts hws ty0 hty hnm hK hc
  obtain ⟨r, h1, cell, q1, q2, q3, q4⟩ := hP (a - b0) _ he
  have hr : r = (C, T, N) := Option.some.inj (h1.symm.trans hc)
  subst hr
  obtain ⟨hS0, hfc, kC, hkC, hkind⟩ := hK.1 ci _ hc
  obtain ⟨cf, kf, fi, f, hi, hsl⟩ := hS0 j hj
  have hlay := hts _ (hws _ (u_in_lay hj))
  unfold u_lay at hlay
  rw [if_neg (by rw [hfin]; decide)] at hlay
  have hst := (u_facts hfc hkC (u_lays hts hws hj) hi).1
  have h6 := u_store hfc hkC hkind hlay hi (hty j hj) (by rw [hty2]; exact hn1) (by rw [hty2]; exact hn2)
  refine W.putK hx hb (f := f) ⟨hown, hts _ hlk, ⟨_, _, _, by rw [← hC]; exact hi⟩, hst⟩ (by rw [q2]; exact h6) q1 q3 (by rw [hsl]; exact k2_hasslot (q4 j hj)) rfl rfl hd fun H' e1 e2 e3 => ?_
  rw [hsl] at e1 ⊢
  exact V.stored k hn ho hP hS hl ha ⟨_, hc, t_OB.to (V := updV (vp_V fs) j w) ⟨_, e1, q2, q3, t_set q4 hap hj w⟩ (fun i _ => vp_updV_set hj2 w i)⟩ e2 e3
theorem V.putff {E : Ev} {X : Cx} {cc : ByteArray} {own : String} {d mc ms nc ns n pc q : Nat} {M : Mem} {lc : List (Option Value)} {st : List Value} {idx ci j a : Nat} {fs : List Value} {w : Value} {ty : FieldType} {y : MethodName} {ret : Option FieldType} {Po : Option Value → Nat → Mem → Prop} (gg : G E X cc y ret d mc ms Po) (hy : y.name = "<init>") (hown2 : y.cls = own) (hd : Dc cc pc 3 q (.putfield idx)) (hf : FP own idx ci j true ty) (hdecl : (vwCl[ci]?.map (fun q => q.1)) = some own) (hm : M a = .inr (ci, fs)) (hj2 : j < fs.length) (hn1 : narrow ty w = w) (hn2 : fits ty w = true) (k : V E X nc ns n (va_up M a (.inr (ci, fs.set j w))) q lc st) : V E X nc ns n M pc lc (w :: .ref a :: st) := by
  obtain ⟨l, D, cy, b0⟩ := E
  obtain ⟨p, e, R, s, m, args, below, meth, c, nL, Q⟩ := X
  obtain ⟨g, hlk0, hret0, hnam, hQ0⟩ := gg
  subst hown2
  obtain ⟨hx, hb, hml, hown, hts, ⟨hK, hAO, hNe⟩, hbs, hR1, hR2, hR3, hR4⟩ := g
  intro H locs ls hn ho hP hS hl
  obtain ⟨hd, rfl⟩ := hd
  obtain ⟨C, T, N, ty0, hc, hj, hws, hC, hlk, hty, hnm, hfin, hty2⟩ := hf
  have ha := ho.in (a := a) (by rw [hm]; exact bad_r (vw_lt hc))
  have he := pool_get (M := M) ha
  rw [hm] at he
  have hap := va_apart (own := y.cls) hts hws ty0 hty hnm hK hc
  obtain ⟨r, h1, cell, q1, q2, q3, q4⟩ := hP (a - b0) _ he
  have hr : r = (C, T, N) := Option.some.inj (h1.symm.trans hc)
  subst hr
  obtain ⟨hS0, hfc, kC, hkC, hkind⟩ := hK.1 ci _ hc
  obtain ⟨cf, kf, fi, f, hi, hsl⟩ := hS0 j hj
  have hlay := hts _ (hws _ (u_in_lay hj))
  unfold u_lay at hlay
  rw [if_pos hfin] at hlay
  have hst := (u_facts hfc hkC (u_lays hts hws hj) hi).1
  have hdecl : C = y.cls := by rw [hc] at hdecl; exact Option.some.inj hdecl
  have hcf : m.cls = cf := by
    obtain ⟨_, _, c', _, _, _, -, -, hf', -, -, -, hown2, -⟩ := Cond.laysFinal_spec hlay
    have e1 : c' = cf := by have := hi.symm.trans hf'; simp at this; exact this.1.symm
    rw [hC, hdecl] at hown2
    rw [← e1]; exact Option.some.inj (hown.symm.trans hown2)
  have h6 := u_fits hfc hkC hkind (Or.inr hlay) hi (hty j hj) (by rw [hty2]; exact hn1) (by rw [hty2]; exact hn2)
  refine W.putFinK hx hb hown (hts _ hlk) (by rw [← hC]; exact hi) hst hcf (hnam.trans hy) (by rw [q2]; exact h6) q1 q3 (by rw [hsl]; exact k2_hasslot (q4 j hj)) rfl rfl hd fun H' e1 e2 e3 => ?_
  rw [hsl] at e1 ⊢
  exact V.stored k hn ho hP hS hl ha ⟨_, hc, t_OB.to (V := updV (vp_V fs) j w) ⟨_, e1, q2, q3, t_set q4 hap hj w⟩ (fun i _ => vp_updV_set hj2 w i)⟩ e2 e3
/-! arrays: contents are functions of whole numbers -/
def upI (f : Int → Int) (j v : Int) : Int → Int := fun i => if i = j then v else f i
theorem upI_s (f : Int → Int) (j v : Int) : upI f j v j = v := if_pos rfl
theorem upI_n (f : Int → Int) {j i : Int} (v : Int) (h : i ≠ j) : upI f j v i = f i := if_neg h
def upR (f : Int → Option Nat) (j : Int) (v : Option Nat) : Int → Option Nat := fun i => if i = j then v else f i
theorem upR_s (f : Int → Option Nat) (j : Int) (v : Option Nat) : upR f j v j = v := if_pos rfl
theorem upR_n (f : Int → Option Nat) {j i : Int} (v : Option Nat) (h : i ≠ j) : upR f j v i = f i := if_neg h
def ia (E : Ev) (len : Nat) (f : Int → Int) : va_E := .inl (E.2.2.1.2.1, len, .inl (fun k : Nat => iI (f (k : Int))))
def ca (E : Ev) (len : Nat) (f : Int → Int) : va_E := .inl (E.2.2.1.1, len, .inl (fun k : Nat => iI (f (k : Int))))
/-- an array of references; w: 2 holders, 3 states, 4 visas -/
def ra (E : Ev) (w len : Nat) (f : Int → Option Nat) : va_E := .inl ((((tysOf E.2.2.1)[w]?).getD (0, .int)).1, len, .inr (.inr (.inr (.inr (fun k : Nat => f (k : Int))))))
theorem upI_fun (f : Int → Int) {j v : Int} (h : 0 ≤ j) : upd (fun k : Nat => iI (f (k : Int))) j.toNat (iI v) = fun k : Nat => iI (upI f j v (k : Int)) := by
  funext k
  unfold upd upI
  by_cases hk : k = j.toNat
  · rw [if_pos hk, if_pos (by omega)]
  · rw [if_neg hk, if_neg (by omega)]
theorem upR_fun (f : Int → Option Nat) {j : Int} {v : Option Nat} (h : 0 ≤ j) : va_up (fun k : Nat => f (k : Int)) j.toNat v = fun k : Nat => upR f j v (k : Int) := by
  funext k
  unfold va_up upR
  by_cases hk : k = j.toNat
  · rw [if_pos hk, if_pos (by omega)]
  · rw [if_neg hk, if_neg (by omega)]
theorem V.iald {E : Ev} {X : Cx} {cc : ByteArray} {own : String} {d mc ms nc ns n pc q : Nat} {M : Mem} {lc : List (Option Value)} {st : List Value} {a len : Nat} {f : Int → Int} {j : Int} (g : G0 E X cc own d mc ms) (hd : Dc cc pc 1 q .iaload) (hm : M a = ia E len f) (hj : 0 ≤ j ∧ j < len) (hlen : len < 2147483648) (k : V E X nc ns n M q lc (.int (iI (f j)) :: st)) : V E X nc ns n M pc lc (.int (iI j) :: .ref a :: st) := by
  obtain ⟨l, D, cy, b0⟩ := E
  obtain ⟨p, e, R, s, m, args, below, meth, c, nL, Q⟩ := X
  obtain ⟨hx, hb, hml, hown, hts, ⟨hK, hAO, hNe⟩, hbs, hR1, hR2, hR3, hR4⟩ := g
  intro H locs ls hn ho hP hS hl
  obtain ⟨hd, rfl⟩ := hd
  have ha := ho.in (a := a) (by rw [hm]; exact bad_l)
  have he := pool_get (M := M) ha
  rw [hm] at he
  refine va_iald hx hb hK hP (a - b0) 1 he rfl (iI_in hj hlen) hd ?_
  rw [iI_clamp (by omega), Int.toNat_of_nonneg hj.1]
  exact k H locs ls hn ho hP hS hl
theorem V.iast {E : Ev} {X : Cx} {cc : ByteArray} {own : String} {d mc ms nc ns n pc q : Nat} {M : Mem} {lc : List (Option Value)} {st : List Value} {a len : Nat} {f : Int → Int} {j v : Int} (g : G0 E X cc own d mc ms) (hd : Dc cc pc 1 q .iastore) (hm : M a = ia E len f) (hj : 0 ≤ j ∧ j < len) (hlen : len < 2147483648) (k : V E X nc ns n (va_up M a (ia E len (upI f j v))) q lc st) : V E X nc ns n M pc lc (.int (iI v) :: .int (iI j) :: .ref a :: st) := by
  obtain ⟨l, D, cy, b0⟩ := E
  obtain ⟨p, e, R, s, m, args, below, meth, c, nL, Q⟩ := X
  obtain ⟨hx, hb, hml, hown, hts, ⟨hK, hAO, hNe⟩, hbs, hR1, hR2, hR3, hR4⟩ := g
  intro H locs ls hn ho hP hS hl
  obtain ⟨hd, rfl⟩ := hd
  have ha := ho.in (a := a) (by rw [hm]; exact bad_l)
  have he := pool_get (M := M) ha
  rw [hm] at he
  have hin := iI_in hj hlen
  refine W.iast hx hb (hP (a - b0) _ he) ((hK.2 1 _ rfl).1 len (fun j => .int (iI (f j)))) (fun q => by cases q) (by show ¬ (iI j < 0 ∨ (arrV _ _ _).slots.size ≤ _); rw [arrV_size]; exact hin) rfl rfl hd fun H1 e1 z oq => ?_
  refine V.stored k hn ho hP hS hl ha ?_ z oq
  show H1[a]? = some (vp_cell _ _)
  rw [e1]
  rw [vp_cell_i, vp_cell_i, arrV_store]
  congr 2
  funext q
  rw [iI_clamp (by omega)]
  by_cases hq : q = j.toNat
  · subst hq
    simp [updV, upI, Int.toNat_of_nonneg hj.1]
  · simp [updV, upI, hq, show ¬ (q : Int) = j by omega]
theorem V.cald {E : Ev} {X : Cx} {cc : ByteArray} {own : String} {d mc ms nc ns n pc q : Nat} {M : Mem} {lc : List (Option Value)} {st : List Value} {a len : Nat} {f : Int → Int} {j : Int} (g : G0 E X cc own d mc ms) (hd : Dc cc pc 1 q .caload) (hm : M a = ca E len f) (hj : 0 ≤ j ∧ j < len) (hlen : len < 2147483648) (k : V E X nc ns n M q lc (.int (iI (f j)) :: st)) : V E X nc ns n M pc lc (.int (iI j) :: .ref a :: st) := by
  obtain ⟨l, D, cy, b0⟩ := E
  obtain ⟨p, e, R, s, m, args, below, meth, c, nL, Q⟩ := X
  obtain ⟨hx, hb, hml, hown, hts, ⟨hK, hAO, hNe⟩, hbs, hR1, hR2, hR3, hR4⟩ := g
  intro H locs ls hn ho hP hS hl
  obtain ⟨hd, rfl⟩ := hd
  have ha := ho.in (a := a) (by rw [hm]; exact bad_l)
  have he := pool_get (M := M) ha
  rw [hm] at he
  refine va_cald hx hb hK hP (a - b0) 0 he rfl (iI_in hj hlen) hd ?_
  rw [iI_clamp (by omega), Int.toNat_of_nonneg hj.1]
  exact k H locs ls hn ho hP hS hl
theorem V.cast {E : Ev} {X : Cx} {cc : ByteArray} {own : String} {d mc ms nc ns n pc q : Nat} {M : Mem} {lc : List (Option Value)} {st : List Value} {a len : Nat} {f : Int → Int} {j v : Int} (g : G0 E X cc own d mc ms) (hd : Dc cc pc 1 q .castore) (hm : M a = ca E len f) (hj : 0 ≤ j ∧ j < len) (hlen : len < 2147483648) (hv : 0 ≤ v ∧ v < 65536) (k : V E X nc ns n (va_up M a (ca E len (upI f j v))) q lc st) : V E X nc ns n M pc lc (.int (iI v) :: .int (iI j) :: .ref a :: st) := by
  obtain ⟨l, D, cy, b0⟩ := E
  obtain ⟨p, e, R, s, m, args, below, meth, c, nL, Q⟩ := X
  obtain ⟨hx, hb, hml, hown, hts, ⟨hK, hAO, hNe⟩, hbs, hR1, hR2, hR3, hR4⟩ := g
  intro H locs ls hn ho hP hS hl
  obtain ⟨hd, rfl⟩ := hd
  have ha := ho.in (a := a) (by rw [hm]; exact bad_l)
  have he := pool_get (M := M) ha
  rw [hm] at he
  have hin := iI_in hj hlen
  refine W.cast hx hb (hP (a - b0) _ he) ((hK.2 0 _ rfl).1 len (fun j => .int (iI (f j)))) (fun q => by cases q) (by show ¬ (iI j < 0 ∨ (arrV _ _ _).slots.size ≤ _); rw [arrV_size]; exact hin) rfl rfl hd fun H1 e1 z oq => ?_
  refine V.stored k hn ho hP hS hl ha ?_ z oq
  show H1[a]? = some (vp_cell _ _)
  rw [e1]
  rw [vp_cell_i, vp_cell_i, arrV_store]
  congr 2
  funext q
  rw [iI_clamp (by omega)]
  by_cases hq : q = j.toNat
  · subst hq
    have h9 := (pk_charN (q := v.toNat) (by omega)).1
    rw [← iI_nat, Int.toNat_of_nonneg hv.1] at h9
    simp [updV, upI, Int.toNat_of_nonneg hj.1, h9]
  · simp [updV, upI, hq, show ¬ (q : Int) = j by omega]
theorem V.aald {E : Ev} {X : Cx} {cc : ByteArray} {own : String} {d mc ms nc ns n pc q : Nat} {M : Mem} {lc : List (Option Value)} {st : List Value} {a len w : Nat} {C : String} {f : Int → Option Nat} {j : Int} (g : G0 E X cc own d mc ms) (hd : Dc cc pc 1 q .aaload) (hm : M a = ra E w len f) (hw : ((tysOf E.2.2.1)[w]?).map (fun q => q.2) = some (.object C)) (hj : 0 ≤ j ∧ j < len) (hlen : len < 2147483648) (k : V E X nc ns n M q lc (va_rf (f j) :: st)) : V E X nc ns n M pc lc (.int (iI j) :: .ref a :: st) := by
  obtain ⟨l, D, cy, b0⟩ := E
  obtain ⟨p, e, R, s, m, args, below, meth, c, nL, Q⟩ := X
  obtain ⟨hx, hb, hml, hown, hts, ⟨hK, hAO, hNe⟩, hbs, hR1, hR2, hR3, hR4⟩ := g
  intro H locs ls hn ho hP hS hl
  obtain ⟨hd, rfl⟩ := hd
  have ha := ho.in (a := a) (by rw [hm]; exact bad_l)
  have he := pool_get (M := M) ha
  rw [hm] at he
  obtain ⟨⟨cA, ty⟩, hw1, hw2⟩ : ∃ z, (tysOf cy)[w]? = some z ∧ z.2 = .object C := by
    cases h9 : (tysOf cy)[w]? with
    | none => rw [h9] at hw; cases hw
    | some z => rw [h9] at hw; exact ⟨z, rfl, Option.some.inj hw⟩
  have hw2 : ty = .object C := hw2
  subst hw2
  have he : (pool b0 n M)[a - b0]? = some (a, .inl (cA, len, .inr (.inr (.inr (.inr (fun k : Nat => f (k : Int))))))) := by rw [he]; simp [ra, hw1]
  refine va_aldq hx hb hK hP (a - b0) w he hw1 (iI_in hj hlen) hd ?_
  rw [iI_clamp (by omega), Int.toNat_of_nonneg hj.1]
  exact k H locs ls hn ho hP hS hl
theorem V.aast {E : Ev} {X : Cx} {cc : ByteArray} {own : String} {d mc ms nc ns n pc q : Nat} {M : Mem} {lc : List (Option Value)} {st : List Value} {a len w u ci : Nat} {r : vw_C} {vs : List Value} {f : Int → Option Nat} {j : Int} (g : G0 E X cc own d mc ms) (hd : Dc cc pc 1 q .aastore) (hm : M a = ra E w len f) (hw : ((tysOf E.2.2.1)[w]?).map (fun q => q.2) = some (.object r.1)) (hu : M u = .inr (ci, vs)) (hr : vwCl[ci]? = some r) (hj : 0 ≤ j ∧ j < len) (hlen : len < 2147483648) (k : V E X nc ns n (va_up M a (ra E w len (upR f j (some u)))) q lc st) : V E X nc ns n M pc lc (.ref u :: .int (iI j) :: .ref a :: st) := by
  obtain ⟨l, D, cy, b0⟩ := E
  obtain ⟨p, e, R, s, m, args, below, meth, c, nL, Q⟩ := X
  obtain ⟨hx, hb, hml, hown, hts, ⟨hK, hAO, hNe⟩, hbs, hR1, hR2, hR3, hR4⟩ := g
  intro H locs ls hn ho hP hS hl
  obtain ⟨hd, rfl⟩ := hd
  have ha := ho.in (a := a) (by rw [hm]; exact bad_l)
  have he := pool_get (M := M) ha
  rw [hm] at he
  obtain ⟨⟨cA, ty⟩, hw1, hw2⟩ : ∃ z, (tysOf cy)[w]? = some z ∧ z.2 = .object r.1 := by
    cases h9 : (tysOf cy)[w]? with
    | none => rw [h9] at hw; cases hw
    | some z => rw [h9] at hw; exact ⟨z, rfl, Option.some.inj hw⟩
  have hw2 : ty = .object r.1 := hw2
  subst hw2
  have he : (pool b0 n M)[a - b0]? = some (a, .inl (cA, len, .inr (.inr (.inr (.inr (fun k : Nat => f (k : Int))))))) := by rw [he]; simp [ra, hw1]
  have hin := iI_in hj hlen
  have hau := ho.in (a := u) (by rw [hu]; exact bad_r (vw_lt hr))
  have hv := pool_get (M := M) hau
  rw [hu] at hv
  have hlt : (iI j).toNatClampNeg < len := Nat.not_le.mp fun q => hin (Or.inr q)
  have h0 : ¬ iI j < 0 := fun q => hin (Or.inl q)
  obtain ⟨r', hr', cellV, g1, g2, g3, -⟩ := hP (u - b0) _ hv
  have hcls := (hK.1 ci r hr).2
  obtain ⟨kA, comp, k1, k2, k3, -⟩ := (hK.2 w _ hw1).2
  have hcomp : comp = D.1 ci := Option.some.inj (k3.symm.trans hcls.1)
  subst hcomp
  obtain ⟨kC, hkC, -⟩ := hcls.2
  refine W.aast hx hb (hP (a - b0) _ he) (fun q h => by cases h) (fun h => by cases h) k1 k2 rfl hkC ⟨h0, by show _ < (arrV _ _ _).slots.size; rw [arrV_size]; exact hlt⟩ g1 (fun q h => by rw [g3] at h; cases h) (by rw [g2]; exact hkC) (by rw [g2]; exact va_assign hcls) rfl rfl hd fun H1 e1 z oq => ?_
  refine V.stored k hn ho hP hS hl ha ?_ z oq
  have e9 : ra (l, D, cy, b0) w len (upR f j (some u)) = .inl (cA, len, .inr (.inr (.inr (.inr (fun k : Nat => upR f j (some u) (k : Int)))))) := by simp [ra, hw1]
  rw [e9]
  show H1[a]? = some (vp_cell _ _)
  rw [e1]
  rw [vp_cell_q, vp_cell_q, arrV_store]
  congr 2
  funext q
  rw [iI_clamp (by omega)]
  by_cases hq : q = j.toNat
  · subst hq
    simp [updV, upR, va_rf, Int.toNat_of_nonneg hj.1]
  · simp [updV, upR, hq, show ¬ (q : Int) = j by omega]
theorem V.aastN {E : Ev} {X : Cx} {cc : ByteArray} {own : String} {d mc ms nc ns n pc q : Nat} {M : Mem} {lc : List (Option Value)} {st : List Value} {a len w : Nat} {C : String} {f : Int → Option Nat} {j : Int} (g : G0 E X cc own d mc ms) (hd : Dc cc pc 1 q .aastore) (hm : M a = ra E w len f) (hw : ((tysOf E.2.2.1)[w]?).map (fun q => q.2) = some (.object C)) (hj : 0 ≤ j ∧ j < len) (hlen : len < 2147483648) (k : V E X nc ns n (va_up M a (ra E w len (upR f j none))) q lc st) : V E X nc ns n M pc lc (.null :: .int (iI j) :: .ref a :: st) := by
  obtain ⟨l, D, cy, b0⟩ := E
  obtain ⟨p, e, R, s, m, args, below, meth, c, nL, Q⟩ := X
  obtain ⟨hx, hb, hml, hown, hts, ⟨hK, hAO, hNe⟩, hbs, hR1, hR2, hR3, hR4⟩ := g
  intro H locs ls hn ho hP hS hl
  obtain ⟨hd, rfl⟩ := hd
  have ha := ho.in (a := a) (by rw [hm]; exact bad_l)
  have he := pool_get (M := M) ha
  rw [hm] at he
  obtain ⟨⟨cA, ty⟩, hw1, hw2⟩ : ∃ z, (tysOf cy)[w]? = some z ∧ z.2 = .object C := by
    cases h9 : (tysOf cy)[w]? with
    | none => rw [h9] at hw; cases hw
    | some z => rw [h9] at hw; exact ⟨z, rfl, Option.some.inj hw⟩
  have hw2 : ty = .object C := hw2
  subst hw2
  have he : (pool b0 n M)[a - b0]? = some (a, .inl (cA, len, .inr (.inr (.inr (.inr (fun k : Nat => f (k : Int))))))) := by rw [he]; simp [ra, hw1]
  have hin := iI_in hj hlen
  refine va_WaastN (C := C) hx hb (hP (a - b0) _ he) ((hK.2 w _ hw1).1 len (fun j => va_rf (f j))) (fun h => by cases h) (by show ¬ (iI j < 0 ∨ (arrV _ _ _).slots.size ≤ _); rw [arrV_size]; exact hin) rfl rfl hd fun H1 e1 z oq => ?_
  refine V.stored k hn ho hP hS hl ha ?_ z oq
  have e9 : ra (l, D, cy, b0) w len (upR f j none) = .inl (cA, len, .inr (.inr (.inr (.inr (fun k : Nat => upR f j none (k : Int)))))) := by simp [ra, hw1]
  rw [e9]
  show H1[a]? = some (vp_cell _ _)
  rw [e1]
  rw [vp_cell_q, vp_cell_q, arrV_store]
  congr 2
  funext q
  rw [iI_clamp (by omega)]
  by_cases hq : q = j.toNat
  · subst hq
    simp [updV, upR, va_rf, Int.toNat_of_nonneg hj.1]
  · simp [updV, upR, hq, show ¬ (q : Int) = j by omega]
theorem V.alen_ia {E : Ev} {X : Cx} {cc : ByteArray} {own : String} {d mc ms nc ns n pc q : Nat} {M : Mem} {lc : List (Option Value)} {st : List Value} {a len : Nat} {f : Int → Int} (g : G0 E X cc own d mc ms) (hd : Dc cc pc 1 q .arraylength) (hm : M a = ia E len f) (k : V E X nc ns n M q lc (.int (iI (len : Int)) :: st)) : V E X nc ns n M pc lc (.ref a :: st) := by
  obtain ⟨l, D, cy, b0⟩ := E
  obtain ⟨p, e, R, s, m, args, below, meth, c, nL, Q⟩ := X
  obtain ⟨hx, hb, hml, hown, hts, ⟨hK, hAO, hNe⟩, hbs, hR1, hR2, hR3, hR4⟩ := g
  intro H locs ls hn ho hP hS hl
  obtain ⟨hd, rfl⟩ := hd
  have ha := ho.in (a := a) (by rw [hm]; exact bad_l)
  have he := pool_get (M := M) ha
  rw [hm] at he
  exact va_alen hx hb hK hP (a - b0) 1 he rfl rfl hd (k H locs ls hn ho hP hS hl)
theorem V.alen_ca {E : Ev} {X : Cx} {cc : ByteArray} {own : String} {d mc ms nc ns n pc q : Nat} {M : Mem} {lc : List (Option Value)} {st : List Value} {a len : Nat} {f : Int → Int} (g : G0 E X cc own d mc ms) (hd : Dc cc pc 1 q .arraylength) (hm : M a = ca E len f) (k : V E X nc ns n M q lc (.int (iI (len : Int)) :: st)) : V E X nc ns n M pc lc (.ref a :: st) := by
  obtain ⟨l, D, cy, b0⟩ := E
  obtain ⟨p, e, R, s, m, args, below, meth, c, nL, Q⟩ := X
  obtain ⟨hx, hb, hml, hown, hts, ⟨hK, hAO, hNe⟩, hbs, hR1, hR2, hR3, hR4⟩ := g
  intro H locs ls hn ho hP hS hl
  obtain ⟨hd, rfl⟩ := hd
  have ha := ho.in (a := a) (by rw [hm]; exact bad_l)
  have he := pool_get (M := M) ha
  rw [hm] at he
  exact va_alen hx hb hK hP (a - b0) 0 he rfl rfl hd (k H locs ls hn ho hP hS hl)
theorem V.alen_ra {E : Ev} {X : Cx} {cc : ByteArray} {own : String} {d mc ms nc ns n pc q : Nat} {M : Mem} {lc : List (Option Value)} {st : List Value} {a len w : Nat} {f : Int → Option Nat} (g : G0 E X cc own d mc ms) (hd : Dc cc pc 1 q .arraylength) (hm : M a = ra E w len f) (hw : w < 5) (k : V E X nc ns n M q lc (.int (iI (len : Int)) :: st)) : V E X nc ns n M pc lc (.ref a :: st) := by
  obtain ⟨l, D, cy, b0⟩ := E
  obtain ⟨p, e, R, s, m, args, below, meth, c, nL, Q⟩ := X
  obtain ⟨hx, hb, hml, hown, hts, ⟨hK, hAO, hNe⟩, hbs, hR1, hR2, hR3, hR4⟩ := g
  intro H locs ls hn ho hP hS hl
  obtain ⟨hd, rfl⟩ := hd
  have ha := ho.in (a := a) (by rw [hm]; exact bad_l)
  have he := pool_get (M := M) ha
  rw [hm] at he
  obtain ⟨⟨cA, ty⟩, hw1⟩ : ∃ z, (tysOf cy)[w]? = some z := ⟨_, List.getElem?_eq_getElem (show w < (tysOf cy).length from hw)⟩
  have he : (pool b0 n M)[a - b0]? = some (a, .inl (cA, len, .inr (.inr (.inr (.inr (fun k : Nat => f (k : Int))))))) := by rw [he]; simp [ra, hw1]
  exact va_alen hx hb hK hP (a - b0) w he hw1 rfl hd (k H locs ls hn ho hP hS hl)
