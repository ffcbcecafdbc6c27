/-! THE MACHINE'S ROWS OVER ONE FLAT MEMORY: every cell that the run has made lies in [b, n); 'M' says what each holds. Ints are written iI z, z a whole number. -/
def iI (z : Int) : Int32 := Int32.ofInt z
theorem iI_add (a b : Int) : iI a + iI b = iI (a + b) := (Int32.ofInt_add a b).symm
theorem iI_sub (a b : Int) : iI a - iI b = iI (a - b) := (Int32.ofInt_sub a b).symm
theorem iI_mul (a b : Int) : iI a * iI b = iI (a * b) := (Int32.ofInt_mul a b).symm
theorem iI_nat (n : Nat) : iI (n : Int) = nI n := rfl
theorem iI_self (x : Int32) : iI x.toInt = x := Int32.ofInt_toInt x
theorem iI_toInt {z : Int} (h : -2147483648 ≤ z ∧ z < 2147483648) : (iI z).toInt = z := Int32.toInt_ofInt_of_le (by omega) (by omega)
theorem iI_inj {a b : Int} (h : -2147483648 ≤ a ∧ a < 2147483648 ∧ -2147483648 ≤ b ∧ b < 2147483648) : iI a = iI b ↔ a = b := by
  constructor
  · intro e
    have := congrArg Int32.toInt e
    rwa [iI_toInt ⟨h.1, h.2.1⟩, iI_toInt ⟨h.2.2.1, h.2.2.2⟩] at this
  · intro e; rw [e]
theorem iI_lt {a b : Int} (h : -2147483648 ≤ a ∧ a < 2147483648 ∧ -2147483648 ≤ b ∧ b < 2147483648) : iI a < iI b ↔ a < b := by
  rw [Int32.lt_iff_toInt_lt, iI_toInt ⟨h.1, h.2.1⟩, iI_toInt ⟨h.2.2.1, h.2.2.2⟩]
theorem iI_le {a b : Int} (h : -2147483648 ≤ a ∧ a < 2147483648 ∧ -2147483648 ≤ b ∧ b < 2147483648) : iI a ≤ iI b ↔ a ≤ b := by
  rw [Int32.le_iff_toInt_le, iI_toInt ⟨h.1, h.2.1⟩, iI_toInt ⟨h.2.2.1, h.2.2.2⟩]
theorem iI_0 : iI 0 = 0 := rfl
theorem iI_clamp {z : Int} (h : 0 ≤ z ∧ z < 2147483648) : (iI z).toNatClampNeg = z.toNat := by
  show (iI z).toInt.toNat = z.toNat
  rw [iI_toInt (by omega)]
theorem iI_of (x : Int32) : ∃ z : Int, -2147483648 ≤ z ∧ z < 2147483648 ∧ x = iI z := ⟨x.toInt, by have := Int32.le_toInt x; simpa using this, by have := Int32.toInt_lt x; simpa using this, (iI_self x).symm⟩
theorem iI_toN {z : Int} (h : 0 ≤ z) : iI z = nI z.toNat := by rw [← iI_nat, Int.toNat_of_nonneg h]
theorem iI_div {a b : Int} (ha : 0 ≤ a ∧ a < 2147483648) (hb : 0 < b ∧ b < 2147483648) : iI a / iI b = iI (a / b) := by
  rw [iI_toN ha.1, iI_toN (by omega : 0 ≤ b), pk_div (by omega) (by omega) (by omega), ← iI_nat, Int.natCast_ediv, Int.toNat_of_nonneg ha.1, Int.toNat_of_nonneg (by omega)]
theorem iI_rem {a b : Int} (ha : 0 ≤ a ∧ a < 2147483648) (hb : 0 < b ∧ b < 2147483648) : iI a - iI a / iI b * iI b = iI (a % b) := by
  rw [iI_toN ha.1, iI_toN (by omega : 0 ≤ b), pk_rem (by omega) (by omega) (by omega), ← iI_nat, Int.natCast_emod, Int.toNat_of_nonneg ha.1, Int.toNat_of_nonneg (by omega)]
theorem iI_in {z : Int} {n : Nat} (h : 0 ≤ z ∧ z < n) (hn : n < 2147483648) : vp_in (iI z) n := by
  rw [iI_toN h.1]; exact vp_in_nI (by omega) (by omega)
def bI (c : Prop) [Decidable c] : Int := if c then 1 else 0
theorem bI_t {c : Prop} [Decidable c] (h : c) : bI c = 1 := if_pos h
theorem bI_f {c : Prop} [Decidable c] (h : ¬ c) : bI c = 0 := if_neg h
theorem bI_01 (c : Prop) [Decidable c] : bI c = 0 ∨ bI c = 1 := by unfold bI; split <;> simp
theorem bI_b (c : Prop) [Decidable c] : 0 ≤ bI c ∧ bI c ≤ 1 := by unfold bI; split <;> omega
theorem bI_e {c d : Prop} [Decidable c] [Decidable d] (h : c ↔ d) : bI c = bI d := by unfold bI; simp [h]
/-! memory -/
abbrev Mem : Type := Nat → va_E
def bad : va_E := .inr (99, [])
def MOk (b n : Nat) (M : Mem) : Prop := b ≤ n ∧ ∀ a : Nat, ¬ (b ≤ a ∧ a < n) → M a = bad
theorem MOk.in {b n : Nat} {M : Mem} (h : MOk b n M) {a : Nat} (ha : M a ≠ bad) : b ≤ a ∧ a < n := by
  by_cases q : b ≤ a ∧ a < n
  · exact q
  · exact absurd (h.2 a q) ha
theorem MOk.new {b n : Nat} {M : Mem} (h : MOk b n M) : M n = bad := h.2 n (by omega)
theorem MOk.up {b n : Nat} {M : Mem} (h : MOk b n M) {a : Nat} (ha : b ≤ a ∧ a < n) (e : va_E) : MOk b n (va_up M a e) := ⟨h.1, fun q hq => by rw [va_up_ne M e (show q ≠ a from fun z => hq (by rw [z]; exact ha))]; exact h.2 q hq⟩
theorem MOk.push {b n : Nat} {M : Mem} (h : MOk b n M) (e : va_E) : MOk b (n + 1) (va_up M n e) := ⟨by have := h.1; omega, fun q hq => by rw [va_up_ne M e (show q ≠ n by have := h.1; omega)]; exact h.2 q (by omega)⟩
theorem bad_l {x : ClassId × vp_A} : (Sum.inl x : va_E) ≠ bad := by intro h; cases h
theorem bad_r {c : Nat} {fs : List Value} (h : c < 8) : (Sum.inr (c, fs) : va_E) ≠ bad := by intro q; unfold bad at q; cases q; omega
def pool (b n : Nat) (M : Mem) : va_W := va_pl (List.range' b (n - b)) M
theorem pool_at (b n : Nat) (M : Mem) (k : Nat) : (pool b n M)[k]? = if b + k < n then some (b + k, M (b + k)) else none := by
  unfold pool va_pl
  rw [List.getElem?_map]
  by_cases h : b + k < n
  · rw [if_pos h, List.getElem?_range' (by omega)]; simp
  · rw [if_neg h, List.getElem?_eq_none (by rw [List.length_range']; omega)]; rfl
theorem pool_get {b n : Nat} {M : Mem} {a : Nat} (h : b ≤ a ∧ a < n) : (pool b n M)[a - b]? = some (a, M a) := by
  rw [pool_at, if_pos (by omega), show b + (a - b) = a by omega]
theorem pool_set {b n : Nat} {M : Mem} {a : Nat} (h : b ≤ a ∧ a < n) (e : va_E) : (pool b n M).set (a - b) (a, e) = pool b n (va_up M a e) := by
  apply List.ext_getElem?
  intro k
  rw [List.getElem?_set, pool_at, pool_at]
  have hl : (pool b n M).length = n - b := by simp [pool, va_pl]
  by_cases hk : a - b = k
  · rw [if_pos hk, hl, if_pos (by omega), if_pos (by omega), show b + k = a by omega, va_up_self]
  · rw [if_neg hk]
    by_cases h2 : b + k < n
    · rw [if_pos h2, if_pos h2, va_up_ne _ _ (by omega)]
    · rw [if_neg h2, if_neg h2]
theorem pool_push {b n : Nat} {M : Mem} (h : b ≤ n) (e : va_E) : pool b n M ++ [(n, e)] = pool b (n + 1) (va_up M n e) := by
  apply List.ext_getElem?
  intro k
  have hl : (pool b n M).length = n - b := by simp [pool, va_pl]
  by_cases hk : k < n - b
  · rw [List.getElem?_append_left (by omega), pool_at, pool_at, if_pos (by omega), if_pos (by omega), va_up_ne _ _ (by omega)]
  · rw [List.getElem?_append_right (by omega), pool_at, hl]
    by_cases h2 : k = n - b
    · rw [if_pos (by omega), show k - (n - b) = 0 by omega, show b + k = n by omega, va_up_self]; rfl
    · rw [if_neg (by omega), List.getElem?_eq_none (by simp; omega)]
theorem pool_D (b n : Nat) (M : Mem) : va_D (fun q => b ≤ q) (pool b n M) := by
  refine ⟨fun i j p q hi hj e => ?_, fun k q hk => ?_⟩
  · rw [pool_at] at hi hj
    split at hi
    · split at hj
      · cases hi; cases hj; have e : b + i = b + j := e; omega
      · cases hj
    · cases hi
  · rw [pool_at] at hk
    split at hk
    · cases hk; exact Nat.le_add_right b k
    · cases hk
/-! the machine's point: V -/
abbrev Cy : Type := ClassId × ClassId × ClassId × ClassId × ClassId
def tysOf (cy : Cy) : List (ClassId × FieldType) := [(cy.1, .char), (cy.2.1, .int), (cy.2.2.1, .object RX1), (cy.2.2.2.1, .object RX2), (cy.2.2.2.2, .object RX5)]
abbrev Ev : Type := Launch × va_G × Cy × Nat
abbrev Cx : Type := Program × Env × Room × State × MethodId × Array Value × List Frame × Method × Code × Nat × (State → Prop)
/-- the links between nest mates, and the arrays over own classes: words that are carried beside the tables' -/
def nests : List (String × Nat × MethodName × String) := [(RX2, 46, yX6_isCountry, RX6), (RX2, 36, yX6_isWithin, RX6), (RX2, 72, yX6_isSpan, RX6), (RX4, 37, yX6_isWithin, RX6), (RX5, 22, yX6_isWithin, RX6)]
def KK (D : va_G) (cy : Cy) (U : State) : Prop := va_K D vwCl (tysOf cy) U ∧ (∀ C ∈ [RX1, RX2, RX5], va_AO C U) ∧ ∀ q ∈ nests, va_Nw (.methodLinkNest q.1 q.2.1 q.2.2.1 q.2.2.2) U
theorem KK.warm {D : va_G} {cy : Cy} {s U : State} (hW : s.WarmedH U.vm) (h : KK D cy s) : KK D cy U := ⟨va_K.moved hW.alike h.1, fun C hC => va_AO.moved hW.alike (h.2.1 C hC), fun q hq => va_Nw.warmM hW (h.2.2 q hq)⟩
/-- the locals: what is known of each, all of one word -/
def lh (ls : Array Slot) (nL : Nat) (lc : List (Option Value)) : Prop := ls.size = nL ∧ lv_wf ls ∧ lc.length = nL ∧ ∀ (i : Nat) (v : Value), lc[i]? = some (some v) → ls[i]? = some (.val v) ∧ v.category = 1
def lhl (lc : List (Option Value)) : List (Nat × Value) := (List.range lc.length).filterMap (fun i => match lc[i]? with | some (some v) => some (i, v) | _ => none)
theorem lhl_mem {lc : List (Option Value)} {i : Nat} {v : Value} : (i, v) ∈ lhl lc ↔ lc[i]? = some (some v) := by
  unfold lhl
  rw [List.mem_filterMap]
  constructor
  · rintro ⟨j, hj, h⟩
    split at h
    · next w hw => cases h; exact hw
    · cases h
  · intro h
    refine ⟨i, List.mem_range.mpr (List.getElem?_eq_some_iff.mp h).1, ?_⟩
    rw [h]
theorem lh.has {ls : Array Slot} {nL : Nat} {lc : List (Option Value)} (h : lh ls nL lc) : lv_has ls nL (lhl lc) := ⟨h.1, h.2.1, fun q hq => (h.2.2.2 q.1 q.2 (lhl_mem.mp hq)).1⟩
theorem lh.set {ls ls' : Array Slot} {nL i : Nat} {lc : List (Option Value)} {v : Value} (h : lh ls nL lc) (hi : i < nL) (hv : v.category = 1) (h' : lv_has ls' nL ((i, v) :: (lhl lc).filter (fun q => !(q.1 == i) && !(q.1 + 1 == i && q.2.category == 2)))) : lh ls' nL (lc.set i (some v)) := by
  refine ⟨h'.1, h'.2.1, by rw [List.length_set]; exact h.2.2.1, fun j w hj => ?_⟩
  by_cases hji : i = j
  · subst hji
    rw [List.getElem?_set_self (by rw [h.2.2.1]; exact hi)] at hj
    cases hj
    exact ⟨h'.2.2 (i, v) List.mem_cons_self, hv⟩
  · rw [List.getElem?_set_ne hji] at hj
    have hc := (h.2.2.2 j w hj).2
    refine ⟨h'.2.2 (j, w) (List.mem_cons_of_mem _ (List.mem_filter.mpr ⟨lhl_mem.mpr hj, ?_⟩)), hc⟩
    have : ¬ j = i := fun e => hji e.symm
    simp [this, hc]
def V (E : Ev) (X : Cx) (nc ns n : Nat) (M : Mem) (pc : Nat) (lc : List (Option Value)) (st : List Value) : Prop :=
  match E, X with
  | (l, D, cy, b), (p, e, R, s, m, args, below, meth, c, nL, Q) => ∀ (H : Heap) (locs : List Loc) (ls : Array Slot), H.size = n → MOk b n M → va_P D vwCl (pool b n M) H → va_S (fun q => b ≤ q) s.heap H locs → lh ls nL lc → W p l e R s m args below meth c H locs nc ns Q (F0 m pc ls st)
/-- what holds all along a method's body -/
def G0 (E : Ev) (X : Cx) (cc : ByteArray) (own : String) (d mc ms : Nat) : Prop :=
  match E, X with
  | (l, D, cy, b), (p, e, R, s, m, args, below, meth, c, nL, Q) => p.tables.exec = Jvm.exec ∧ c.code = cc ∧ c.maxLocals = nL ∧ s.vm.findClass own = some m.cls ∧ (∀ w ∈ tb, w.before args s = true) ∧ KK D cy s ∧ b ≤ s.heap.size ∧ R.frames = d ∧ 30 * d ≤ R.locals ∧ R.cells = mc ∧ R.slots = ms
def QQ (E : Ev) (Po : Option Value → Nat → Mem → Prop) : Array Value → State → Outcome → State → Prop := fun _ st o t =>
  (∃ (v : Option Value) (n : Nat) (M : Mem), o = .returned v ∧ Po v n M ∧ t.heap.size = n ∧ MOk E.2.2.2 n M ∧ va_P E.2.1 vwCl (pool E.2.2.2 n M) t.heap ∧ KK E.2.1 E.2.2.1 t) ∧ va_F (fun q => E.2.2.2 ≤ q) st t
def G (E : Ev) (X : Cx) (cc : ByteArray) (y : MethodName) (ret : Option FieldType) (d mc ms : Nat) (Po : Option Value → Nat → Mem → Prop) : Prop :=
  G0 E X cc y.cls d mc ms ∧
  match E, X with
  | (l, D, cy, b), (p, e, R, s, m, args, below, meth, c, nL, Q) => meth.locks = false ∧ meth.sig.returnType = ret ∧ meth.name = y.name ∧ Q = MQ below (QQ (l, D, cy, b) Po) args s mc ms (fun q => b ≤ q)
def wd (y : MethodName) (cc : ByteArray) (nL : Nat) (ret : Option FieldType) : List Cond := Cond.code y cc nL ret :: tb
/-- a method's contract: at these arguments, over this memory: it returns, and Po holds of the answer, the heap's size and the memory -/
def MT (E : Ev) (y : MethodName) (cc : ByteArray) (nL : Nat) (ret : Option FieldType) (d mc ms : Nat) (as : List Value) (n : Nat) (M : Mem) (Po : Option Value → Nat → Mem → Prop) : Prop :=
  Met E.1 y (wd y cc nL ret) ⟨d, mc, ms, 30 * d⟩ (va_Pc as (fun U => E.2.2.2 ≤ n ∧ U.heap.size = n ∧ MOk E.2.2.2 n M ∧ va_P E.2.1 vwCl (pool E.2.2.2 n M) U.heap ∧ KK E.2.1 E.2.2.1 U)) (QQ E Po) mc ms (fun q => E.2.2.2 ≤ q)
/-- an answer told, nothing changed or made -/
def PF (v : Option Value) (n : Nat) (M : Mem) : Option Value → Nat → Mem → Prop := fun v' n' M' => v' = v ∧ n' = n ∧ M' = M
theorem lh_entry (as : List Value) (nL : Nat) (h1 : as.all (fun v => v.category == 1) = true) (h2 : as.length ≤ nL) : lh ((lg_sl as ++ List.replicate (nL - (lg_sl as).length) Slot.unset).toArray) nL (as.map some ++ List.replicate (nL - as.length) none) := by
  have hc : ∀ v ∈ as, v.category = 1 := fun v hv => by simpa using List.all_eq_true.mp h1 v hv
  have e : lg_sl as = as.map Slot.val := by
    unfold lg_sl
    clear h2 h1
    induction as with
    | nil => rfl
    | cons v t ih =>
      rw [List.flatMap_cons, List.map_cons, ih (fun w hw => hc w (List.mem_cons_of_mem _ hw)), if_neg (by rw [hc v List.mem_cons_self]; decide)]
      rfl
  have hl := lv_entry as (n := nL) (by rw [e, List.length_map]; exact h2)
  refine ⟨hl.1, hl.2.1, by simp; omega, fun i v hi => ?_⟩
  by_cases hia : i < as.length
  · rw [List.getElem?_append_left (by simpa using hia), List.getElem?_map] at hi
    cases hv : as[i]? with
    | none => rw [hv] at hi; cases hi
    | some w =>
      rw [hv] at hi
      cases hi
      refine ⟨?_, hc v (List.mem_of_getElem? hv)⟩
      rw [e, List.getElem?_toArray, List.getElem?_append_left (by simpa using hia), List.getElem?_map, hv]
      rfl
  · rw [List.getElem?_append_right (by simp; omega), List.getElem?_replicate] at hi
    split at hi
    · cases hi
    · cases hi
theorem MT.of {E : Ev} {y : MethodName} {cc : ByteArray} {nL : Nat} {ret : Option FieldType} {d mc ms : Nat} {as : List Value} {n : Nat} {M : Mem} {Po : Option Value → Nat → Mem → Prop} (hy : plainName y.cls = true) (h1 : as.all (fun v => v.category == 1) = true) (h2 : as.length ≤ nL)
    (body : ∀ X : Cx, G E X cc y ret d mc ms Po → V E X 0 0 n M 0 (as.map some ++ List.replicate (nL - as.length) none) []) : MT E y cc nL ret d mc ms as n M Po := by
  obtain ⟨l, D, cy, b⟩ := E
  refine Met.ofW (cc := cc) (maxL := nL) (ret := ret) hy rfl ?_
  intro p e s m args below meth c s₁ B hml hv
  obtain ⟨rfl, hbn, hsz, hok, hP, hK⟩ := hv
  have hts := atoms_spec (ws := wd y cc nL ret) B.pre
  have hown : s.vm.findClass y.cls = some m.cls := findClass_of_methodNamed B.named
  rw [lg_entry_eq]
  refine body (p, e, _, s, m, as.toArray, below, meth, c, nL, _) ⟨⟨B.exec, B.bytes, hml, hown, fun w hw => hts w (List.mem_cons_of_mem _ hw), hK, by have hbn : b ≤ n := hbn; have hsz : s.heap.size = n := hsz; omega, rfl, Nat.le_refl _, rfl, rfl⟩, B.notSynchronized, B.returns, (name_of_methodNamed B.named B.method).1, rfl⟩ s.heap [] _ hsz hok hP va_S.rf (lh_entry as nL h1 h2)
def Dc (cc : ByteArray) (pc len q : Nat) (i : Instr) : Prop := decode cc pc = .ok (i, len) ∧ pc + len = q
