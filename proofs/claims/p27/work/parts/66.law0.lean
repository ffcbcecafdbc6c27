/-! THE LAW'S ROWS: its script, its answers, its end -/
def sv (xs : Nat → Int32) (j : Int) : Int := (xs j.toNat).toInt
theorem sv_rg {xs : Nat → Int32} {j : Int} : rg (sv xs j) := by
  have h1 := Int32.le_toInt (xs j.toNat)
  have h2 := Int32.toInt_lt (xs j.toNat)
  unfold rg sv
  constructor
  · simpa using h1
  · simpa using h2
/-- the script lies below what the run has made -/
def SX (E : Ev) (X : Cx) (b L : Nat) (xs : Nat → Int32) : Prop :=
  match E, X with
  | (l, D, cy, b0), (p, e, R, s, m, args, below, meth, c, nL, Q) => va_X b L xs s s.heap ∧ b < s.heap.size ∧ b < b0
theorem V.sld {E : Ev} {X : Cx} {cc : ByteArray} {own : String} {d mc ms nc ns n pc q b L : Nat} {M : Mem} {lc : List (Option Value)} {st : List Value} {xs : Nat → Int32} {j : Int} (g : G0 E X cc own d mc ms) (hd : Dc cc pc 1 q .iaload) (hs : SX E X b L xs) (hj : 0 ≤ j ∧ j < L) (hL : L < 100000) (k : V E X nc ns n M q lc (.int (iI (sv xs j)) :: st)) : V E X nc ns n M pc lc (.int (iI j) :: .ref b :: st) := by
  obtain ⟨l, D, cy, b0⟩ := E
  obtain ⟨p, e, R, s, m, args, below, meth, c, nL, Q⟩ := X
  obtain ⟨hx, hb, hml, hown, hts, ⟨hK, hAO, hNe⟩, hbs, hR1, hR2, hR3, hR4⟩ := g
  obtain ⟨hX, hbl, hbA⟩ := hs
  intro H locs ls hn ho hP hS hl
  obtain ⟨hd, rfl⟩ := hd
  refine va_sld hx hb hX hbl (Nat.not_le.mpr hbA) hS (iI_in hj (by omega)) hd ?_
  have k2 := k H locs ls hn ho hP hS hl
  unfold sv at k2
  rw [iI_self] at k2
  rw [iI_clamp (by omega)]
  exact k2
theorem V.slen {E : Ev} {X : Cx} {cc : ByteArray} {own : String} {d mc ms nc ns n pc q b L : Nat} {M : Mem} {lc : List (Option Value)} {st : List Value} {xs : Nat → Int32} (g : G0 E X cc own d mc ms) (hd : Dc cc pc 1 q .arraylength) (hs : SX E X b L xs) (k : V E X nc ns n M q lc (.int (iI (L : Int)) :: st)) : V E X nc ns n M pc lc (.ref b :: st) := by
  obtain ⟨l, D, cy, b0⟩ := E
  obtain ⟨p, e, R, s, m, args, below, meth, c, nL, Q⟩ := X
  obtain ⟨hx, hb, hml, hown, hts, ⟨hK, hAO, hNe⟩, hbs, hR1, hR2, hR3, hR4⟩ := g
  obtain ⟨hX, hbl, hbA⟩ := hs
  intro H locs ls hn ho hP hS hl
  obtain ⟨hd, rfl⟩ := hd
  exact va_slen hx hb hX hbl (Nat.not_le.mpr hbA) hS hd (k H locs ls hn ho hP hS hl)
/-- the two answers are one -/
theorem V.same {E : Ev} {X : Cx} {cc : ByteArray} {own : String} {d mc ms nc ns n pc q t : Nat} {M : Mem} {lc : List (Option Value)} {st : List Value} {x : Int32} (g : G0 E X cc own d mc ms) (hd : Dj cc pc q t (.if_icmp .eq)) (k : V E X nc ns n M t lc st) : V E X nc ns n M pc lc (.int x :: .int x :: st) := by
  obtain ⟨l, D, cy, b0⟩ := E
  obtain ⟨p, e, R, s, m, args, below, meth, c, nL, Q⟩ := X
  obtain ⟨hx, hb, hml, hown, hts, ⟨hK, hAO, hNe⟩, hbs, hR1, hR2, hR3, hR4⟩ := g
  intro H locs ls hn ho hP hS hl
  obtain ⟨off, hd, rfl, ht⟩ := hd
  exact lv_icmp_eq hx hb hd ht (fun _ => k H locs ls hn ho hP hS hl) (fun z => absurd rfl z)
theorem V.wid {E : Ev} {X : Cx} {nc nc' ns ns' n pc : Nat} {M : Mem} {lc : List (Option Value)} {st : List Value} (h1 : nc ≤ nc') (h2 : ns ≤ ns') (k : V E X nc' ns' n M pc lc st) : V E X nc ns n M pc lc st := by
  obtain ⟨l, D, cy, b0⟩ := E
  obtain ⟨p, e, R, s, m, args, below, meth, c, nL, Q⟩ := X
  intro H locs ls hn ho hP hS hl
  exact W.widen h1 h2 (k H locs ls hn ho hP hS hl)
section
variable {E : Ev} {M M' : Mem} {m w n o : Nat} {A : AS}
theorem XR.frm (h : XR E M w n o A) (hf : ∀ q, (o ≤ q ∧ q < o + 438) ∨ (w ≤ q ∧ q < n) → M' q = M q) : XR E M' w n o A := by
  obtain ⟨sb, ad, b, cn, ce, th, nx, ki, pa, co, fo, fr, un, da, hA, hB, hD⟩ := h
  exact ⟨sb, ad, b, cn, ce, th, nx, ki, pa, co, fo, fr, un, da, hA, hB.frm hA hD.2.2.2.2.2.2.2.1 (Nat.le_refl _) (fun q hq => hf q (by omega)), hD.frm (Nat.le_refl _) (fun q hq => hf q (by omega))⟩
theorem XR.fct (h : XR E M w n o A) : Ok A.1 ∧ (0 ≤ A.2.2.1 ∧ A.2.2.1 ≤ 4) ∧ (A.2.2.2.2.1 = 0 ∨ A.2.2.2.2.1 = 1) ∧ txB A.2.2.2.2.2.1 A.2.2.2.2.2.2.1 ∧ (o + 438 ≤ w ∧ w ≤ n) := by
  obtain ⟨sb, ad, b, cn, ce, th, nx, ki, pa, co, fo, fr, un, da, hA, hB, hD⟩ := h
  exact ⟨hB.1.ok, hD.2.2.2.2.1, hD.2.2.2.2.2.1, hD.2.2.2.1, hD.2.2.2.2.2.2.2.1⟩
theorem XR.now (h : XR E M w n o A) : ∃ fs, M o = .inr (6, .ref (o + 1) :: fs) ∧ SR E M w n (o + 1) A.1 := by
  obtain ⟨sb, ad, b, cn, ce, th, nx, ki, pa, co, fo, fr, un, da, hA, hB, hD⟩ := h
  exact ⟨_, hD.1, hB.1⟩
end
/-! THE START: the tables' words -/
theorem arr_T {s : State} {a : Array Value} {ty : FieldType} (h : (Cond.arrayClass ty).before a s = true) (hn : ∀ C, ty ≠ .object C) : ∃ cA, ArrOfT s cA ty ∧ va_RA s cA ty := by
  obtain ⟨cA, kA, comp, h1, h2, h3⟩ := Cond.arrayClass_spec h
  refine ⟨cA, fun n z => ⟨fun k h => (by cases h), kA, h2, comp, h3⟩, ?_⟩
  cases ty with
  | object C => exact absurd rfl (hn C)
  | _ => exact h1
theorem arr_O {s : State} {a : Array Value} {C : String} (h : (Cond.arrayOver (.object C)).before a s = true) : ∃ cA, ArrOfT s cA (.object C) ∧ va_RA s cA (.object C) := by
  obtain ⟨comp, cA, kA, h1, h2, h3, h4, h5⟩ := Cond.arrayOver_spec h
  exact ⟨cA, fun n z => ⟨fun k h => (by cases h), kA, h3, comp, h4⟩, kA, comp, h3, h4, h1, h5⟩
theorem over_0 {s : State} {a : Array Value} {C : String} (h : (Cond.arrayOver (.object C)).before a s = true) : va_AO C s := Cond.arrayOver_alike (Vm.Alike.refl _) h
theorem KK_start {s : State} {a : Array Value} (hts : ∀ w ∈ lw_tbl, w.before a s = true) : ∃ (D : va_G) (cy : Cy), KK D cy s := by
  obtain ⟨k0, j0, K0⟩ := u_known (C := RX0) (T := TX0) (N := 2) (n := 2) hts inX0 (hts (.instantiable RX0 2) (List.mem_of_getElem? (i := 64) (by decide +kernel)))
  obtain ⟨k1, j1, K1⟩ := u_known (C := RX1) (T := TX1) (N := 6) (n := 6) hts inX1 (hts (.instantiable RX1 6) (List.mem_of_getElem? (i := 36) (by decide +kernel)))
  obtain ⟨k2, j2, K2⟩ := u_known (C := RX2) (T := TX2) (N := 5) (n := 5) hts inX2 (hts (.instantiable RX2 5) (List.mem_of_getElem? (i := 29) (by decide +kernel)))
  obtain ⟨k3, j3, K3⟩ := u_known (C := RX3) (T := TX3) (N := 11) (n := 11) hts inX3 (hts (.instantiable RX3 11) (List.mem_of_getElem? (i := 132) (by decide +kernel)))
  obtain ⟨k4, j4, K4⟩ := u_known (C := RX4) (T := TX4) (N := 3) (n := 3) hts inX4 (hts (.instantiable RX4 3) (List.mem_of_getElem? (i := 42) (by decide +kernel)))
  obtain ⟨k5, j5, K5⟩ := u_known (C := RX5) (T := TX5) (N := 4) (n := 4) hts inX5 (hts (.instantiable RX5 4) (List.mem_of_getElem? (i := 363) (by decide +kernel)))
  obtain ⟨k6, j6, K6⟩ := u_known (C := RX6) (T := TX6) (N := 9) (n := 9) hts inX6 (hts (.instantiable RX6 9) (List.mem_of_getElem? (i := 21) (by decide +kernel)))
  obtain ⟨dC, dI, hKc⟩ : ∃ (dC : Nat → ClassId) (dI : Nat → Nat → Nat), ∀ (k : Nat) (q : vw_C), vwCl[k]? = some q → u_Kn s q.1 q.2.1 q.2.2 (dC k) (dI k) := by
    refine ⟨fun k => [k0, k1, k2, k3, k4, k5, k6].getD k 0, fun k => [j0, j1, j2, j3, j4, j5, j6].getD k j0, ?_⟩
    intro k q hq
    match k, hq with
    | 0, hq => cases hq; exact K0
    | 1, hq => cases hq; exact K1
    | 2, hq => cases hq; exact K2
    | 3, hq => cases hq; exact K3
    | 4, hq => cases hq; exact K4
    | 5, hq => cases hq; exact K5
    | 6, hq => cases hq; exact K6
    | k + 7, hq => simp [vwCl] at hq
  have o1 := hts (.arrayOver (.object RX1)) (List.mem_of_getElem? (i := 35) (by decide +kernel))
  have o2 := hts (.arrayOver (.object RX2)) (List.mem_of_getElem? (i := 130) (by decide +kernel))
  have o5 := hts (.arrayOver (.object RX5)) (List.mem_of_getElem? (i := 81) (by decide +kernel))
  obtain ⟨a0, A0⟩ := arr_T (hts (.arrayClass .char) (List.mem_of_getElem? (i := 162) (by decide +kernel))) (fun _ h => by cases h)
  obtain ⟨a1, A1⟩ := arr_T (hts (.arrayClass .int) (List.mem_of_getElem? (i := 62) (by decide +kernel))) (fun _ h => by cases h)
  obtain ⟨a2, A2⟩ := arr_O o1
  obtain ⟨a3, A3⟩ := arr_O o2
  obtain ⟨a4, A4⟩ := arr_O o5
  refine ⟨(dC, dI), (a0, a1, a2, a3, a4), ⟨hKc, fun k q hq => ?_⟩, fun C hC => ?_, fun q hq => ?_⟩
  · match k, hq with
    | 0, hq => cases hq; exact A0
    | 1, hq => cases hq; exact A1
    | 2, hq => cases hq; exact A2
    | 3, hq => cases hq; exact A3
    | 4, hq => cases hq; exact A4
    | k + 5, hq => simp [tysOf] at hq
  · simp only [List.mem_cons, List.not_mem_nil, or_false] at hC
    rcases hC with rfl | rfl | rfl
    · exact over_0 o1
    · exact over_0 o2
    · exact over_0 o5
  · unfold nests at hq
    simp only [List.mem_cons, List.not_mem_nil, or_false] at hq
    rcases hq with rfl | rfl | rfl | rfl | rfl
    · exact va_Nw.of rfl (hts _ (List.mem_of_getElem? (i := 310) (by decide +kernel)))
    · exact va_Nw.of rfl (hts _ (List.mem_of_getElem? (i := 358) (by decide +kernel)))
    · exact va_Nw.of rfl (hts _ (List.mem_of_getElem? (i := 359) (by decide +kernel)))
    · exact va_Nw.of rfl (hts _ (List.mem_of_getElem? (i := 262) (by decide +kernel)))
    · exact va_Nw.of rfl (hts _ (List.mem_of_getElem? (i := 291) (by decide +kernel)))

theorem q6_count {E : Ev} {M : Mem} {w n o : Nat} {A : AS} (hX : XR E M w n o A) {v : Int} (h1 : rg v) : MT E yX6_count cX6_count 2 (some .int) 6 0 0 [.ref o, .int (iI v)] n M (PF (some (.int (iI (q_count A.1 A.2.2.1 A.2.2.2.2.2.2.1 v)))) n M) := by
  obtain ⟨sb, ad, b, cn, ce, th, nx, ki, pa, co, fo, fr, un, da, hA, hB, hD⟩ := hX
  exact c_X6_count hD.1 hB.1 hD.1 hD.2.2.1 h1
/-! a new object tells A0 -/
def A0 : AS := (z0, fun _ => z0, 0, z0, 0, z0, 0, -5, -5)
theorem z0_ok : Ok z0 := ⟨⟨by decide, by decide⟩, ⟨by decide, by decide⟩, ⟨by decide, by decide⟩, fun p h0 h1 => absurd (show p < 0 from h1) (by omega)⟩
theorem clOf_0 : clOf (z0 620).toNat = 0 := by decide +kernel
theorem SR0 {E : Ev} {M : Mem} {w n t : Nat} (h : StM E M t 0 0 0 0 (fun _ => c0)) : SR E M w n t z0 := ⟨fun _ => c0, by rw [clOf_0]; exact h, ⟨⟨rfl, rfl, rfl⟩, fun i hi => ⟨⟨(show (0 : Int) ≤ 0 by decide), (show (0 : Int) < 61 by decide)⟩, ⟨(show (0 : Int) ≤ 0 by decide), (show (0 : Int) < 17 by decide)⟩⟩, fun i hi => absurd (show (i : Int) < 0 from hi) (by omega)⟩, fun i hi k u hu => absurd (show none = some u from hu) (by simp), z0_ok⟩
def ad0 (o : Nat) : Int → Nat := fun i => o + 188 + 62 * i.toNat
theorem XR0 {E : Ev} {M : Mem} {n o w : Nat} (h0 : M o = .inr (6, [.ref (o + 1), .ref (o + 187), .int 0, .ref (o + 63), .ref (o + 125), .int 0, .ref (o + 436), .int 0, .int 0])) (h187 : M (o + 187) = ra E 3 4 (hrF (ad0 o))) (hb : ∀ j, 0 < j → j < 438 → j ≠ 187 → M (o + j) = cX E o 4 j) (hw : o + 438 ≤ w) (hn : w ≤ n) : XR E M w n o A0 := by
  have b1 : SR E M w n (o + 1) z0 := SR0 (fun j hj => by rw [Nat.add_assoc]; exact (hb _ (by omega) (by omega) (by omega)).trans (cX_a hj))
  have b2 : SR E M w n (o + 63) z0 := SR0 (fun j hj => by rw [Nat.add_assoc]; exact (hb _ (by omega) (by omega) (by omega)).trans (cX_b hj))
  have b3 : SR E M w n (o + 125) z0 := SR0 (fun j hj => by rw [Nat.add_assoc]; exact (hb _ (by omega) (by omega) (by omega)).trans (cX_c hj))
  have b4 : ∀ i : Nat, i < 4 → SR E M w n (o + 188 + 62 * i) z0 := fun i hi => SR0 (fun j hj => by rw [show o + 188 + 62 * i + j = o + (188 + 62 * i + j) by omega]; exact (hb _ (by omega) (by omega) (by omega)).trans (cX_h hj hi))
  refine ⟨z0, ad0 o, o + 63, 0, 0, 0, 0, 0, 0, 0, 0, 0, 0, 0, ⟨fun i h h4 => ?_, Or.inl rfl, fun i j a1 a2 a3 a4 q => ?_, fun i a1 a2 => ?_⟩, ⟨b1, b2, ⟨z0, b3, fun _ => rfl⟩, fun i a1 a2 => ?_⟩, ⟨h0, h187, fun j hj => ?_, ⟨⟨by decide, by decide⟩, fun j g1 g2 => absurd (show j < 0 from g2) (by omega)⟩, ⟨by decide, by decide⟩, Or.inl rfl, Or.inl ⟨rfl, rfl, rfl⟩, ⟨by omega, hn⟩, by decide, by decide⟩⟩
  · unfold blkA ad0; omega
  · unfold ad0; omega
  · unfold ad0; omega
  · unfold ad0; exact ⟨z0, b4 i.toNat (by omega), fun _ => rfl⟩
  · rw [Nat.add_assoc]; exact (hb _ (by omega) (by omega) (by omega)).trans (cX_t hj)
