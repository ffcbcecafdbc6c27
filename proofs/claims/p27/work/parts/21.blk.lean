/-! BLOCKS of cells -/
def ov (M : Mem) (a N : Nat) (c : Nat → va_E) : Mem := fun q => if a ≤ q ∧ q < a + N then c (q - a) else M q
def Bk (M : Mem) (a N : Nat) (c : Nat → va_E) : Prop := ∀ j, j < N → M (a + j) = c j
theorem ov_in {M : Mem} {a N j : Nat} {c : Nat → va_E} (h : j < N) : ov M a N c (a + j) = c j := by
  unfold ov; rw [if_pos (by omega), show a + j - a = j by omega]
theorem ov_0 {M : Mem} {a N : Nat} {c : Nat → va_E} (h : 0 < N) : ov M a N c a = c 0 := ov_in (j := 0) h
theorem ov_n {M : Mem} {a N q : Nat} {c : Nat → va_E} (h : q < a ∨ a + N ≤ q) : ov M a N c q = M q := by
  unfold ov; rw [if_neg (by omega)]
theorem ov_Bk {M : Mem} {a N : Nat} {c : Nat → va_E} : Bk (ov M a N c) a N c := fun _ h => ov_in h
theorem ov_id {M : Mem} {a N : Nat} {c : Nat → va_E} (h : Bk M a N c) : ov M a N c = M := by
  funext q; unfold ov; split
  · next hq => rw [← h (q - a) (by omega), show a + (q - a) = q by omega]
  · rfl
theorem ov_ov {M : Mem} {a N : Nat} {c d : Nat → va_E} : ov (ov M a N c) a N d = ov M a N d := by
  funext q; unfold ov; split
  · rfl
  · rfl
theorem ov_sub {M : Mem} {a N k n : Nat} {c d c' : Nat → va_E} (hk : k + n ≤ N) (h1 : ∀ j, j < n → c' (k + j) = d j) (h2 : ∀ j, j < N → ¬ (k ≤ j ∧ j < k + n) → c' j = c j) : ov (ov M a N c) (a + k) n d = ov M a N c' := by
  funext q
  by_cases h3 : a + k ≤ q ∧ q < a + k + n
  · have e1 : ov (ov M a N c) (a + k) n d q = d (q - (a + k)) := if_pos h3
    have e2 : ov M a N c' q = c' (q - a) := if_pos (by omega)
    rw [e1, e2, ← h1 (q - (a + k)) (by omega), show k + (q - (a + k)) = q - a by omega]
  · have e1 : ov (ov M a N c) (a + k) n d q = ov M a N c q := if_neg h3
    rw [e1]
    by_cases hq : a ≤ q ∧ q < a + N
    · have e2 : ov M a N c' q = c' (q - a) := if_pos hq
      have e3 : ov M a N c q = c (q - a) := if_pos hq
      rw [e2, e3, h2 (q - a) (by omega) (by omega)]
    · have e2 : ov M a N c' q = M q := if_neg hq
      have e3 : ov M a N c q = M q := if_neg hq
      rw [e2, e3]
theorem ov_up {M : Mem} {a N k : Nat} {e : va_E} {c c' : Nat → va_E} (hk : k < N) (h1 : c' k = e) (h2 : ∀ j, j < N → j ≠ k → c' j = c j) : va_up (ov M a N c) (a + k) e = ov M a N c' := by
  rw [← ov_sub (M := M) (a := a) (N := N) (k := k) (c := c) (n := 1) (d := fun _ => e) (c' := c') (by omega) (fun j hj => by rw [show j = 0 by omega]; exact h1) (fun j hj hn => h2 j hj (by omega))]
  funext q
  unfold va_up
  by_cases h3 : q = a + k
  · have e1 : ov (ov M a N c) (a + k) 1 (fun _ => e) q = e := if_pos (by omega)
    rw [if_pos h3, e1]
  · rw [if_neg h3]; exact (ov_n (by omega)).symm
theorem Bk.sub {M : Mem} {a N k n : Nat} {c d : Nat → va_E} (h : Bk M a N c) (hk : k + n ≤ N) (h1 : ∀ j, j < n → c (k + j) = d j) : Bk M (a + k) n d := fun j hj => by rw [← h1 j hj, ← h (k + j) (by omega), Nat.add_assoc]
theorem Bk.at {M : Mem} {a N : Nat} {c : Nat → va_E} (h : Bk M a N c) (j : Nat) (hj : j < N) : M (a + j) = c j := h j hj
theorem Bk.fr {M M' : Mem} {a N : Nat} {c : Nat → va_E} (h : Bk M a N c) (hf : ∀ q, a ≤ q → q < a + N → M' q = M q) : Bk M' a N c := fun j hj => (hf _ (by omega) (by omega)).trans (h j hj)
/-! A TRAIL: its object, its days, its places -/
def trC (E : Ev) (a N : Nat) (dy pl : Int → Int) (k : Int) : Nat → va_E
  | 0 => .inr (4, [.ref (a + 1), .ref (a + 2), .int (iI k)])
  | 1 => ia E N dy
  | _ => ia E N pl
abbrev TrM (E : Ev) (M : Mem) (a N : Nat) (dy pl : Int → Int) (k : Int) : Prop := Bk M a 3 (trC E a N dy pl k)
def trU (E : Ev) (M : Mem) (a N : Nat) (dy pl : Int → Int) (k : Int) : Mem := ov M a 3 (trC E a N dy pl k)
section
variable {E : Ev} {M : Mem} {a N : Nat} {dy pl : Int → Int} {k : Int}
theorem TrM.h0 (h : TrM E M a N dy pl k) : M a = .inr (4, [.ref (a + 1), .ref (a + 2), .int (iI k)]) := h 0 (by omega)
theorem TrM.h1 (h : TrM E M a N dy pl k) : M (a + 1) = ia E N dy := h 1 (by omega)
theorem TrM.h2 (h : TrM E M a N dy pl k) : M (a + 2) = ia E N pl := h 2 (by omega)
theorem tr_M : TrM E (trU E M a N dy pl k) a N dy pl k := ov_Bk
theorem tr_id (h : TrM E M a N dy pl k) : trU E M a N dy pl k = M := ov_id h
theorem tr_0 : trU E M a N dy pl k a = .inr (4, [.ref (a + 1), .ref (a + 2), .int (iI k)]) := TrM.h0 tr_M
theorem tr_1 : trU E M a N dy pl k (a + 1) = ia E N dy := TrM.h1 tr_M
theorem tr_2 : trU E M a N dy pl k (a + 2) = ia E N pl := TrM.h2 tr_M
theorem j3 {j : Nat} (h : j < 3) : j = 0 ∨ j = 1 ∨ j = 2 := by omega
theorem tr_u0 {k' : Int} : va_up (trU E M a N dy pl k) a (.inr (4, [.ref (a + 1), .ref (a + 2), .int (iI k')])) = trU E M a N dy pl k' := ov_up (k := 0) (by omega) rfl (fun j h h2 => by rcases j3 h with rfl | rfl | rfl <;> first | rfl | exact absurd rfl h2)
theorem tr_u1 {dy' : Int → Int} : va_up (trU E M a N dy pl k) (a + 1) (ia E N dy') = trU E M a N dy' pl k := ov_up (k := 1) (by omega) rfl (fun j h h2 => by rcases j3 h with rfl | rfl | rfl <;> first | rfl | exact absurd rfl h2)
theorem tr_u2 {pl' : Int → Int} : va_up (trU E M a N dy pl k) (a + 2) (ia E N pl') = trU E M a N dy pl' k := ov_up (k := 2) (by omega) rfl (fun j h h2 => by rcases j3 h with rfl | rfl | rfl <;> first | rfl | exact absurd rfl h2)
end
/-- on how many days of a span one is in a country, step by step -/
def dFst (dy : Int → Int) (a i : Int) : Int := if a < dy i then dy i else a
def dLst (dy : Int → Int) (k u i : Int) : Int := if i < k ∧ dy (i + 1) ≤ u then dy (i + 1) - 1 else u
def dTerm (dy pl : Int → Int) (k c a u i : Int) : Int := if pl i = c ∧ dFst dy a i ≤ dLst dy k u i then dLst dy k u i - dFst dy a i + 1 else 0
def dSum (dy pl : Int → Int) (k c a u : Int) (n : Nat) : Int := sumI (fun i => dTerm dy pl k c a u i) n
/-- what holds of a trail's rows -/
abbrev TrOk (N : Nat) (dy pl : Int → Int) (k : Int) : Prop := (0 ≤ k ∧ k < N ∧ N < 100) ∧ ∀ i, 0 ≤ i → i ≤ k → (0 ≤ dy i ∧ dy i ≤ 999) ∧ (-5 ≤ pl i ∧ pl i ≤ 5)
def aft (f : Int → Int) (k i : Int) : Int := if 0 ≤ i ∧ i ≤ k then f i else -5
/-- a visa -/
def viC (c x u d : Int) : va_E := .inr (5, [.int (iI c), .int (iI x), .int (iI u), .int (iI d)])
/-! THE JDK'S OWN METHODS: a contract of a class whose name has a slash -/
theorem Met.ofJ {l : Launch} {y : MethodName} {ws ws' : List Cond} {rm : Room} {Pc : Array Value → State → Prop} {Qc : Array Value → State → Outcome → State → Prop} {mc ms : Nat} {free : Addr → Prop} {cc : ByteArray} {maxL : Nat} {ret : Option FieldType}
    (hy : plainFor y = true) (hw : ws = Cond.code y cc maxL ret :: ws')
    (body : ∀ p e s m args below meth c s₁, BodyLoose p l y (headSpec ws rm) cc maxL ret e s m args below meth c s₁ → c.maxLocals = maxL → Pc args s →
      W p l e (headSpec ws rm).room s m args below meth c s.heap [] 0 0 (MQ below Qc args s mc ms free) (entryFrame m args maxL)) : Met l y ws rm Pc Qc mc ms free := by
  refine MetFree.of_bodySF (code := cc) (maxLocals := maxL) (ret := ret) hy ?_ ?_
  · intro args s m h hn
    have hc := atoms_spec (ws := ws) h _ (by rw [hw]; exact List.mem_cons_self)
    obtain ⟨meth, c, h1, h2, h3, h4, h5, h6, -, -⟩ := Cond.code_spec hn hc
    exact ⟨meth, c, h1, h2, h3, h4, h5, h6⟩
  · intro p e s m args below meth c s₁ B hml hP _
    have hh0 : s₁.heap = s.heap := by rw [B.state]; rfl
    obtain ⟨t, a1, o, b1, b2, b3⟩ := body p e s m args below meth c s₁ B hml hP s₁ hh0 (Stand.of_body B)
    exact ⟨t, o, a1, b1, b2, ⟨b3.1, b3.2⟩⟩
theorem MT.ofJ {E : Ev} {y : MethodName} {cc : ByteArray} {nL : Nat} {ret : Option FieldType} {d mc ms : Nat} {as : List Value} {n : Nat} {M : Mem} {Po : Option Value → Nat → Mem → Prop} (hy : plainFor y = true) (h1 : as.all (fun v => v.category == 1) = true) (h2 : as.length ≤ nL)
    (body : ∀ X : Cx, G E X cc y ret d mc ms Po → V E X 0 0 n M 0 (as.map some ++ List.replicate (nL - as.length) none) []) : MT E y cc nL ret d mc ms as n M Po := by
  obtain ⟨l, D, cy, b⟩ := E
  refine Met.ofJ (cc := cc) (maxL := nL) (ret := ret) hy rfl ?_
  intro p e s m args below meth c s₁ B hml hv
  obtain ⟨rfl, hbn, hsz, hok, hP, hK⟩ := hv
  have hts := atoms_spec (ws := wd y cc nL ret) B.pre
  have hown : s.vm.findClass y.cls = some m.cls := findClass_of_methodNamed B.named
  rw [lg_entry_eq]
  refine body (p, e, _, s, m, as.toArray, below, meth, c, nL, _) ⟨⟨B.exec, B.bytes, hml, hown, fun w hw => hts w (List.mem_cons_of_mem _ hw), hK, by have hbn : b ≤ n := hbn; have hsz : s.heap.size = n := hsz; omega, rfl, Nat.le_refl _, rfl, rfl⟩, B.notSynchronized, B.returns, (name_of_methodNamed B.named B.method).1, rfl⟩ s.heap [] _ hsz hok hP va_S.rf (lh_entry as nL h1 h2)
