theorem MT.mem {E : Ev} {y : MethodName} {cc : ByteArray} {nL : Nat} {ret : Option FieldType} {d mc ms : Nat} {as : List Value} {n : Nat} {M M0 : Mem} {Po : Option Value → Nat → Mem → Prop} (e : M = M0) (h : MT E y cc nL ret d mc ms as n M0 Po) : MT E y cc nL ret d mc ms as n M Po := by rw [e]; exact h
theorem i2c_of (x : Int32) : ∃ z : Int, (0 ≤ z ∧ z < 65536) ∧ (x.toUInt32 % 65536).toInt32 = iI z := by
  have h : (x.toUInt32 % 65536).toNat < 65536 := by
    rw [UInt32.toNat_mod]
    exact Nat.mod_lt _ (by decide)
  refine ⟨((x.toUInt32 % 65536).toNat : Int), by omega, ?_⟩
  generalize x.toUInt32 % 65536 = y at h ⊢
  apply Int32.toBitVec_inj.1
  show y.toBitVec = BitVec.ofInt 32 (y.toNat : Int)
  rw [BitVec.ofInt_natCast]
  exact (BitVec.ofNat_toNat 32 y.toBitVec).symm.trans rfl
section
variable {E : Ev} {M : Mem} {n m : Nat} {A : AS}
theorem mR_issue (hM : MDp E M m A) (hkn : 0 ≤ A.2.2.1 ∧ A.2.2.1 ≤ 4) (hO : Ok A.1) {h : Int} (h1 : rg h) : MT E yX7_issue cX7_issue 4 (some .int) 2 0 0 [.ref m, .int (iI h)] n M (RM E M n m (a_issue A h)) := by
  obtain ⟨a, sp, wr, le, f1, f2, f3, f4, f5, sb, e⟩ := hM
  exact MT.mem e ((c_X7_issue (E := E) (n := n) (M := M) (m := m) (s := A.1) (a := a) (sn := A.2.2.2.1) (tx := A.2.2.2.2.2.1) (H := A.2.1) (kn := A.2.2.1) (kp := A.2.2.2.2.1) (ln := A.2.2.2.2.2.2.1) (st := A.2.2.2.2.2.2.2.1) (se := A.2.2.2.2.2.2.2.2) (sp := sp) (wr := wr) (le := le) (f1 := f1) (f2 := f2) (f3 := f3) (f4 := f4) (f5 := f5) (sb := sb) hkn hO h1).mono (fun v n' M' hq => RM.of (A := A) (g := a_issue A h) hq))
theorem mR_renew (hM : MDp E M m A) (hkn : 0 ≤ A.2.2.1 ∧ A.2.2.1 ≤ 4) (hO : Ok A.1) {p : Int} (h1 : rg p) : MT E yX7_renew cX7_renew 3 (some .int) 2 0 0 [.ref m, .int (iI p)] n M (RM E M n m (a_renew A p)) := by
  obtain ⟨a, sp, wr, le, f1, f2, f3, f4, f5, sb, e⟩ := hM
  exact MT.mem e ((c_X7_renew (E := E) (n := n) (M := M) (m := m) (s := A.1) (a := a) (sn := A.2.2.2.1) (tx := A.2.2.2.2.2.1) (H := A.2.1) (kn := A.2.2.1) (kp := A.2.2.2.2.1) (ln := A.2.2.2.2.2.2.1) (st := A.2.2.2.2.2.2.2.1) (se := A.2.2.2.2.2.2.2.2) (sp := sp) (wr := wr) (le := le) (f1 := f1) (f2 := f2) (f3 := f3) (f4 := f4) (f5 := f5) (sb := sb) hkn hO h1).mono (fun v n' M' hq => RM.of (A := A) (g := a_renew A p) hq))
theorem mR_grant (hM : MDp E M m A) (hkn : 0 ≤ A.2.2.1 ∧ A.2.2.1 ≤ 4) (hO : Ok A.1) {p c x u d : Int} (h1 : rg p) (h2 : rg c) (h3 : rg x) (h4 : rg u) (h5 : rg d) : MT E yX7_grant cX7_grant 7 (some .int) 9 0 0 [.ref m, .int (iI p), .int (iI c), .int (iI x), .int (iI u), .int (iI d)] n M (RM E M n m (a_grant A p c x u d)) := by
  obtain ⟨a, sp, wr, le, f1, f2, f3, f4, f5, sb, e⟩ := hM
  exact MT.mem e ((c_X7_grant (E := E) (n := n) (M := M) (m := m) (s := A.1) (a := a) (sn := A.2.2.2.1) (tx := A.2.2.2.2.2.1) (H := A.2.1) (kn := A.2.2.1) (kp := A.2.2.2.2.1) (ln := A.2.2.2.2.2.2.1) (st := A.2.2.2.2.2.2.2.1) (se := A.2.2.2.2.2.2.2.2) (sp := sp) (wr := wr) (le := le) (f1 := f1) (f2 := f2) (f3 := f3) (f4 := f4) (f5 := f5) (sb := sb) hkn hO h1 h2 h3 h4 h5).mono (fun v n' M' hq => RM.of (A := A) (g := a_grant A p c x u d) hq))
theorem mR_revoke (hM : MDp E M m A) (hkn : 0 ≤ A.2.2.1 ∧ A.2.2.1 ≤ 4) (hO : Ok A.1) {p c : Int} (h1 : rg p) (h2 : rg c) : MT E yX7_revoke cX7_revoke 4 (some .int) 8 0 0 [.ref m, .int (iI p), .int (iI c)] n M (RM E M n m (a_revoke A p c)) := by
  obtain ⟨a, sp, wr, le, f1, f2, f3, f4, f5, sb, e⟩ := hM
  exact MT.mem e ((c_X7_revoke (E := E) (n := n) (M := M) (m := m) (s := A.1) (a := a) (sn := A.2.2.2.1) (tx := A.2.2.2.2.2.1) (H := A.2.1) (kn := A.2.2.1) (kp := A.2.2.2.2.1) (ln := A.2.2.2.2.2.2.1) (st := A.2.2.2.2.2.2.2.1) (se := A.2.2.2.2.2.2.2.2) (sp := sp) (wr := wr) (le := le) (f1 := f1) (f2 := f2) (f3 := f3) (f4 := f4) (f5 := f5) (sb := sb) hkn hO h1 h2).mono (fun v n' M' hq => RM.of (A := A) (g := a_revoke A p c) hq))
theorem mR_turnBorder (hM : MDp E M m A) (hkn : 0 ≤ A.2.2.1 ∧ A.2.2.1 ≤ 4) (hO : Ok A.1) {p c : Int} (h1 : rg p) (h2 : rg c) : MT E yX7_turnBorder cX7_turnBorder 3 (some .int) 2 0 0 [.ref m, .int (iI p), .int (iI c)] n M (RM E M n m (a_turn A p c)) := by
  obtain ⟨a, sp, wr, le, f1, f2, f3, f4, f5, sb, e⟩ := hM
  exact MT.mem e ((c_X7_turnBorder (E := E) (n := n) (M := M) (m := m) (s := A.1) (a := a) (sn := A.2.2.2.1) (tx := A.2.2.2.2.2.1) (H := A.2.1) (kn := A.2.2.1) (kp := A.2.2.2.2.1) (ln := A.2.2.2.2.2.2.1) (st := A.2.2.2.2.2.2.2.1) (se := A.2.2.2.2.2.2.2.2) (sp := sp) (wr := wr) (le := le) (f1 := f1) (f2 := f2) (f3 := f3) (f4 := f4) (f5 := f5) (sb := sb) hkn hO h1 h2).mono (fun v n' M' hq => RM.of (A := A) (g := a_turn A p c) hq))
theorem mR_cross (hM : MDp E M m A) (hkn : 0 ≤ A.2.2.1 ∧ A.2.2.1 ≤ 4) (hO : Ok A.1) {p c f : Int} (h1 : rg p) (h2 : rg c) (h3 : rg f) : MT E yX7_cross cX7_cross 5 (some .int) 11 0 0 [.ref m, .int (iI p), .int (iI c), .int (iI f)] n M (RM E M n m (a_cross A p c f)) := by
  obtain ⟨a, sp, wr, le, f1, f2, f3, f4, f5, sb, e⟩ := hM
  exact MT.mem e ((c_X7_cross (E := E) (n := n) (M := M) (m := m) (s := A.1) (a := a) (sn := A.2.2.2.1) (tx := A.2.2.2.2.2.1) (H := A.2.1) (kn := A.2.2.1) (kp := A.2.2.2.2.1) (ln := A.2.2.2.2.2.2.1) (st := A.2.2.2.2.2.2.2.1) (se := A.2.2.2.2.2.2.2.2) (sp := sp) (wr := wr) (le := le) (f1 := f1) (f2 := f2) (f3 := f3) (f4 := f4) (f5 := f5) (sb := sb) hkn hO h1 h2 h3).mono (fun v n' M' hq => RM.of (A := A) (g := a_cross A p c f) hq))
theorem mR_pass (hM : MDp E M m A) (hkn : 0 ≤ A.2.2.1 ∧ A.2.2.1 ≤ 4) (hO : Ok A.1) {d : Int} (h1 : rg d) : MT E yX7_pass cX7_pass 3 (some .int) 9 0 0 [.ref m, .int (iI d)] n M (RM E M n m (a_pass A d)) := by
  obtain ⟨a, sp, wr, le, f1, f2, f3, f4, f5, sb, e⟩ := hM
  exact MT.mem e ((c_X7_pass (E := E) (n := n) (M := M) (m := m) (s := A.1) (a := a) (sn := A.2.2.2.1) (tx := A.2.2.2.2.2.1) (H := A.2.1) (kn := A.2.2.1) (kp := A.2.2.2.2.1) (ln := A.2.2.2.2.2.2.1) (st := A.2.2.2.2.2.2.2.1) (se := A.2.2.2.2.2.2.2.2) (sp := sp) (wr := wr) (le := le) (f1 := f1) (f2 := f2) (f3 := f3) (f4 := f4) (f5 := f5) (sb := sb) hkn hO h1).mono (fun v n' M' hq => RM.of (A := A) (g := a_pass A d) hq))
theorem mR_type (hM : MDp E M m A) (ht : txB A.2.2.2.2.2.1 A.2.2.2.2.2.2.1) {z : Int}  : MT E yX7_type cX7_type 2 (some .int) 0 0 0 [.ref m, .int (iI z)] n M (RM E M n m (a_type A z)) := by
  obtain ⟨a, sp, wr, le, f1, f2, f3, f4, f5, sb, e⟩ := hM
  exact MT.mem e ((c_X7_type (E := E) (n := n) (M := M) (m := m) (s := A.1) (a := a) (sn := A.2.2.2.1) (tx := A.2.2.2.2.2.1) (H := A.2.1) (kn := A.2.2.1) (kp := A.2.2.2.2.1) (ln := A.2.2.2.2.2.2.1) (st := A.2.2.2.2.2.2.2.1) (se := A.2.2.2.2.2.2.2.2) (sp := sp) (wr := wr) (le := le) (f1 := f1) (f2 := f2) (f3 := f3) (f4 := f4) (f5 := f5) (sb := sb) (ch := z) ht.1).mono (fun v n' M' hq => RM.of (A := A) (g := a_type A z) hq))
theorem mR_clearText (hM : MDp E M m A) : MT E yX7_clearText cX7_clearText 2 (some .int) 0 0 0 [.ref m] n M (RM E M n m (a_clear A)) := by
  obtain ⟨a, sp, wr, le, f1, f2, f3, f4, f5, sb, e⟩ := hM
  exact MT.mem e ((c_X7_clearText (E := E) (n := n) (M := M) (m := m) (s := A.1) (a := a) (sn := A.2.2.2.1) (tx := A.2.2.2.2.2.1) (H := A.2.1) (kn := A.2.2.1) (kp := A.2.2.2.2.1) (ln := A.2.2.2.2.2.2.1) (st := A.2.2.2.2.2.2.2.1) (se := A.2.2.2.2.2.2.2.2) (sp := sp) (wr := wr) (le := le) (f1 := f1) (f2 := f2) (f3 := f3) (f4 := f4) (f5 := f5) (sb := sb) ).mono (fun v n' M' hq => RM.of (A := A) (g := a_clear A) hq))
theorem mR_undo (hM : MDp E M m A) (hkn : 0 ≤ A.2.2.1 ∧ A.2.2.1 ≤ 4) : MT E yX7_undo cX7_undo 2 (some .int) 0 0 0 [.ref m] n M (RM E M n m (a_undo A)) := by
  obtain ⟨a, sp, wr, le, f1, f2, f3, f4, f5, sb, e⟩ := hM
  exact MT.mem e ((c_X7_undo (E := E) (n := n) (M := M) (m := m) (s := A.1) (a := a) (sn := A.2.2.2.1) (tx := A.2.2.2.2.2.1) (H := A.2.1) (kn := A.2.2.1) (kp := A.2.2.2.2.1) (ln := A.2.2.2.2.2.2.1) (st := A.2.2.2.2.2.2.2.1) (se := A.2.2.2.2.2.2.2.2) (sp := sp) (wr := wr) (le := le) (f1 := f1) (f2 := f2) (f3 := f3) (f4 := f4) (f5 := f5) (sb := sb) hkn).mono (fun v n' M' hq => RM.of (A := A) (g := a_undo A) hq))
theorem mR_keep (hM : MDp E M m A) : MT E yX7_keep cX7_keep 2 (some .int) 0 0 0 [.ref m] n M (RM E M n m (a_keep A)) := by
  obtain ⟨a, sp, wr, le, f1, f2, f3, f4, f5, sb, e⟩ := hM
  exact MT.mem e ((c_X7_keep (E := E) (n := n) (M := M) (m := m) (s := A.1) (a := a) (sn := A.2.2.2.1) (tx := A.2.2.2.2.2.1) (H := A.2.1) (kn := A.2.2.1) (kp := A.2.2.2.2.1) (ln := A.2.2.2.2.2.2.1) (st := A.2.2.2.2.2.2.2.1) (se := A.2.2.2.2.2.2.2.2) (sp := sp) (wr := wr) (le := le) (f1 := f1) (f2 := f2) (f3 := f3) (f4 := f4) (f5 := f5) (sb := sb) ).mono (fun v n' M' hq => RM.of (A := A) (g := a_keep A) hq))
theorem mR_restore (hM : MDp E M m A) (hkn : 0 ≤ A.2.2.1 ∧ A.2.2.1 ≤ 4) (hkp : A.2.2.2.2.1 = 0 ∨ A.2.2.2.2.1 = 1) : MT E yX7_restore cX7_restore 2 (some .int) 1 0 0 [.ref m] n M (RM E M n m (a_restore A)) := by
  obtain ⟨a, sp, wr, le, f1, f2, f3, f4, f5, sb, e⟩ := hM
  exact MT.mem e ((c_X7_restore (E := E) (n := n) (M := M) (m := m) (s := A.1) (a := a) (sn := A.2.2.2.1) (tx := A.2.2.2.2.2.1) (H := A.2.1) (kn := A.2.2.1) (kp := A.2.2.2.2.1) (ln := A.2.2.2.2.2.2.1) (st := A.2.2.2.2.2.2.2.1) (se := A.2.2.2.2.2.2.2.2) (sp := sp) (wr := wr) (le := le) (f1 := f1) (f2 := f2) (f3 := f3) (f4 := f4) (f5 := f5) (sb := sb) hkn hkp).mono (fun v n' M' hq => RM.of (A := A) (g := a_restore A) hq))
theorem mR_perform (hM : MDp E M m A) (ht : txB A.2.2.2.2.2.1 A.2.2.2.2.2.2.1) (hO : Ok A.1) (hkn : 0 ≤ A.2.2.1 ∧ A.2.2.1 ≤ 4) : MT E yX7_perform cX7_perform 3 (some .int) 13 0 0 [.ref m] n M (RM E M n m (a_perform A)) := by
  obtain ⟨a, sp, wr, le, f1, f2, f3, f4, f5, sb, e⟩ := hM
  refine MT.mem e ((c_X7_perform (E := E) (n := n) (M := M) (m := m) (s := A.1) (a := a) (sn := A.2.2.2.1) (tx := A.2.2.2.2.2.1) (H := A.2.1) (kn := A.2.2.1) (kp := A.2.2.2.2.1) (ln := A.2.2.2.2.2.2.1) (st := A.2.2.2.2.2.2.2.1) (se := A.2.2.2.2.2.2.2.2) (sp := sp) (wr := wr) (le := le) (f1 := f1) (f2 := f2) (f3 := f3) (f4 := f4) (f5 := f5) (sb := sb) ht hO hkn).mono ?_)
  rintro v n' M' ⟨rfl, rfl, a', sp', wr', le', g1, g2, g3, g4, g5, sb', rfl⟩
  exact ⟨rfl, rfl, MDp.of, fun q hq => md_n hq⟩
theorem mR_stopped (hM : MDp E M m A) {v : Int} (h1 : rg v) : MT E yX7_stopped cX7_stopped 2 (some .int) 0 0 0 [.ref m, .int (iI v)] n M (PF (some (.int (iI (q_stopped A.2.2.2.2.2.2.2.1 A.2.2.2.2.2.2.2.2 v)))) n M) := by
  obtain ⟨a, sp, wr, le, f1, f2, f3, f4, f5, sb, e⟩ := hM
  refine MT.mem e ((c_X7_stopped (E := E) (n := n) (M := M) (m := m) (s := A.1) (a := a) (sn := A.2.2.2.1) (tx := A.2.2.2.2.2.1) (H := A.2.1) (kn := A.2.2.1) (kp := A.2.2.2.2.1) (ln := A.2.2.2.2.2.2.1) (st := A.2.2.2.2.2.2.2.1) (se := A.2.2.2.2.2.2.2.2) (sp := sp) (wr := wr) (le := le) (f1 := f1) (f2 := f2) (f3 := f3) (f4 := f4) (f5 := f5) (sb := sb)  h1).mono ?_)
  rintro v' n' M' ⟨rfl, e2, rfl⟩
  exact ⟨rfl, e2, e.symm⟩
theorem mR_count (hM : MDp E M m A) (hO : Ok A.1) {v : Int} (h1 : rg v) : MT E yX7_count cX7_count 2 (some .int) 7 0 0 [.ref m, .int (iI v)] n M (PF (some (.int (iI (q_count A.1 A.2.2.1 A.2.2.2.2.2.2.1 v)))) n M) := by
  obtain ⟨a, sp, wr, le, f1, f2, f3, f4, f5, sb, e⟩ := hM
  refine MT.mem e ((c_X7_count (E := E) (n := n) (M := M) (m := m) (s := A.1) (a := a) (sn := A.2.2.2.1) (tx := A.2.2.2.2.2.1) (H := A.2.1) (kn := A.2.2.1) (kp := A.2.2.2.2.1) (ln := A.2.2.2.2.2.2.1) (st := A.2.2.2.2.2.2.2.1) (se := A.2.2.2.2.2.2.2.2) (sp := sp) (wr := wr) (le := le) (f1 := f1) (f2 := f2) (f3 := f3) (f4 := f4) (f5 := f5) (sb := sb) hO h1).mono ?_)
  rintro v' n' M' ⟨rfl, e2, rfl⟩
  exact ⟨rfl, e2, e.symm⟩
end
theorem q6_count {E : Ev} {M : Mem} {w n o : Nat} {A : AS} (hX : XR E M w n o A) {v : Int} (h1 : rg v) : MT E yX6_count cX6_count 2 (some .int) 6 0 0 [.ref o, .int (iI v)] n M (PF (some (.int (iI (q_count A.1 A.2.2.1 A.2.2.2.2.2.2.1 v)))) n M) := by
  obtain ⟨sb, ad, b, cn, ce, th, nx, ki, pa, co, fo, fr, un, da, hA, hB, hD⟩ := hX
  exact c_X6_count hD.1 hB.1 hD.1 hD.2.2.1 h1
/-! a new object tells A0 -/
def A0 : AS := (z0, fun _ => z0, 0, z0, 0, z0, 0, -5, -5)
theorem z0_ok : Ok z0 := ⟨⟨by decide, by decide⟩, ⟨by decide, by decide⟩, ⟨by decide, by decide⟩, fun p h0 h1 => absurd (show p < 0 from h1) (by omega)⟩
theorem clOf_0 : clOf (z0 620).toNat = 0 := by decide +kernel
theorem SR0 {E : Ev} {M : Mem} {w n t : Nat} (h : StM E M t 0 0 0 0 (fun _ => c0)) : SR E M w n t z0 := ⟨fun _ => c0, by rw [clOf_0]; exact h, ⟨⟨rfl, rfl, rfl⟩, fun i hi => ⟨⟨(show (0 : Int) ≤ 0 by decide), (show (0 : Int) < 61 by decide)⟩, ⟨(show (0 : Int) ≤ 0 by decide), (show (0 : Int) < 17 by decide)⟩⟩, fun i hi => absurd (show (i : Int) < 0 from hi) (by omega)⟩, fun i hi k u hu => absurd (show none = some u from hu) (by simp), z0_ok⟩
def ad0 (o : Nat) : Int → Nat := fun i => o + 188 + 62 * i.toNat
theorem XR0 {E : Ev} {M : Mem} {n o : Nat} (h0 : M o = .inr (6, [.ref (o + 1), .ref (o + 187), .int 0, .ref (o + 63), .ref (o + 125), .int 0, .ref (o + 436), .int 0, .int 0])) (h187 : M (o + 187) = ra E 3 4 (hrF (ad0 o))) (hb : ∀ j, 0 < j → j < 438 → j ≠ 187 → M (o + j) = cX E o 4 j) (hn : o + 444 ≤ n) : XR E M (o + 444) n o A0 := by
  have b1 : SR E M (o + 444) n (o + 1) z0 := SR0 (fun j hj => by rw [Nat.add_assoc]; exact (hb _ (by omega) (by omega) (by omega)).trans (cX_a hj))
  have b2 : SR E M (o + 444) n (o + 63) z0 := SR0 (fun j hj => by rw [Nat.add_assoc]; exact (hb _ (by omega) (by omega) (by omega)).trans (cX_b hj))
  have b3 : SR E M (o + 444) n (o + 125) z0 := SR0 (fun j hj => by rw [Nat.add_assoc]; exact (hb _ (by omega) (by omega) (by omega)).trans (cX_c hj))
  have b4 : ∀ i : Nat, i < 4 → SR E M (o + 444) n (o + 188 + 62 * i) z0 := fun i hi => SR0 (fun j hj => by rw [show o + 188 + 62 * i + j = o + (188 + 62 * i + j) by omega]; exact (hb _ (by omega) (by omega) (by omega)).trans (cX_h hj hi))
  refine ⟨z0, ad0 o, o + 63, 0, 0, 0, 0, 0, 0, 0, 0, 0, 0, 0, ⟨fun i h h4 => ?_, Or.inl rfl, fun i j a1 a2 a3 a4 q => ?_, fun i a1 a2 => ?_⟩, ⟨b1, b2, ⟨z0, b3, fun _ => rfl⟩, fun i a1 a2 => ?_⟩, ⟨h0, h187, fun j hj => ?_, ⟨⟨by decide, by decide⟩, fun j g1 g2 => absurd (show j < 0 from g2) (by omega)⟩, ⟨by decide, by decide⟩, Or.inl rfl, Or.inl ⟨rfl, rfl, rfl⟩, ⟨by omega, hn⟩, by decide, by decide⟩⟩
  · unfold blkA ad0; omega
  · unfold ad0; omega
  · unfold ad0; omega
  · unfold ad0; exact ⟨z0, b4 i.toNat (by omega), fun _ => rfl⟩
  · rw [Nat.add_assoc]; exact (hb _ (by omega) (by omega) (by omega)).trans (cX_t hj)
