theorem tk_yes {tx : Int → Int} {ln sp wr lo hi : Int} (h : nxt tx ln sp wr lo hi) : tkV tx ln sp wr lo hi = tx sp - lo ∧ tkS tx ln sp wr lo hi = sp + 1 ∧ tkW tx ln sp wr lo hi = 0 ∧ wr = 0 := ⟨if_pos h, by rw [tkS, bI_t h], bI_f (fun q => q h), h.1⟩
theorem tk_no {tx : Int → Int} {ln sp wr lo hi : Int} (h : ¬ nxt tx ln sp wr lo hi) : tkV tx ln sp wr lo hi = 0 ∧ tkS tx ln sp wr lo hi = sp + 0 ∧ tkW tx ln sp wr lo hi = 1 := ⟨if_neg h, by rw [tkS, bI_f h], bI_t h⟩
theorem tk_all {tx : Int → Int} {ln sp wr lo hi : Int} (h : 0 ≤ sp ∧ sp ≤ ln) (hl : lo ≤ hi) : (0 ≤ tkS tx ln sp wr lo hi ∧ tkS tx ln sp wr lo hi ≤ ln ∧ sp ≤ tkS tx ln sp wr lo hi) ∧ (tkW tx ln sp wr lo hi = 0 ∨ tkW tx ln sp wr lo hi = 1) ∧ (0 ≤ tkV tx ln sp wr lo hi ∧ tkV tx ln sp wr lo hi ≤ hi - lo) ∧ (tkW tx ln sp wr lo hi = 0 → sp < tkS tx ln sp wr lo hi ∧ wr = 0) := by
  refine ⟨tkS_b h, tkW_b, ?_, ?_⟩
  · by_cases q : nxt tx ln sp wr lo hi
    · rw [(tk_yes q).1]; omega
    · rw [(tk_no q).1]; omega
  · intro hw
    by_cases q : nxt tx ln sp wr lo hi
    · rw [(tk_yes q).2.1]; exact ⟨by omega, q.1⟩
    · rw [(tk_no q).2.2] at hw; omega
theorem nmL_step {tx : Int → Int} {ln most v sp : Int} {f : Nat} (hf : 0 < f) (h : 0 < v ∧ nxt tx ln sp 0 48 57 ∧ 10 * v + tx sp - 48 ≤ most) : nmL tx ln most f v sp = nmL tx ln most (f - 1) (10 * v + tx sp - 48) (sp + 1) := by
  obtain ⟨k, rfl⟩ : ∃ k, f = k + 1 := ⟨f - 1, by omega⟩
  exact if_pos h
theorem nmL_stop {tx : Int → Int} {ln most v sp : Int} {f : Nat} (h : ¬ (0 < v ∧ nxt tx ln sp 0 48 57 ∧ 10 * v + tx sp - 48 ≤ most)) : nmL tx ln most f v sp = (v, sp) := by
  cases f with
  | zero => rfl
  | succ k => exact if_neg h
def nmF (tx : Int → Int) (ln most : Int) (f : Nat) (v s w : Int) : Int × Int × Int := if w = 0 then ((nmL tx ln most f v s).1, (nmL tx ln most f v s).2, 0) else (v, s, 1)
theorem nmF_0 {tx : Int → Int} {ln sp wr least most : Int} : nm tx ln sp wr least most = nmF tx ln most 61 (least + tkV tx ln sp wr (48 + least) 57) (tkS tx ln sp wr (48 + least) 57) (tkW tx ln sp wr (48 + least) 57) := by
  unfold nmF
  by_cases h : nxt tx ln sp wr (48 + least) 57
  · rw [nmYes h, (tk_yes h).1, (tk_yes h).2.1, (tk_yes h).2.2.1, if_pos rfl]
  · rw [nmNo h, (tk_no h).1, (tk_no h).2.1, (tk_no h).2.2, if_neg (by omega), Int.add_zero sp]
theorem nmF_stop {tx : Int → Int} {ln most v s w : Int} {f : Nat} (hw : w = 0 ∨ w = 1) (h : w = 0 → ¬ (0 < v ∧ nxt tx ln s 0 48 57 ∧ 10 * v + tx s - 48 ≤ most)) : nmF tx ln most f v s w = (v, s, w) := by
  unfold nmF
  rcases hw with q | q
  · rw [if_pos q, nmL_stop (h q), q]
  · rw [if_neg (by omega), q]
theorem nmF_step {tx : Int → Int} {ln most v s w : Int} {f : Nat} (hf : 0 < f) (hw : w = 0) (h : 0 < v ∧ nxt tx ln s 0 48 57 ∧ 10 * v + tx s - 48 ≤ most) : nmF tx ln most f v s w = nmF tx ln most (f - 1) (10 * v + tx s - 48) (s + 1) w := by
  unfold nmF
  rw [if_pos hw, if_pos hw, nmL_step hf h]
theorem nm_prog {tx : Int → Int} {ln sp wr least most : Int} (h : 0 ≤ sp ∧ sp ≤ ln) (hl : 0 ≤ least ∧ least ≤ 9 ∧ 9 ≤ most) (hw : (nm tx ln sp wr least most).2.2 = 0) : sp < (nm tx ln sp wr least most).2.1 ∧ wr = 0 := by
  by_cases q : nxt tx ln sp wr (48 + least) 57
  · rw [nmYes q]
    have := (nmL_b (tx := tx) (ln := ln) (most := most) 61 (v := least + (tx sp - (48 + least))) (sp := sp + 1) (by omega) (by omega)).1
    exact ⟨by show sp < (nmL tx ln most 61 (least + (tx sp - (48 + least))) (sp + 1)).2; omega, q.1⟩
  · rw [nmNo q] at hw
    have : (1 : Int) = 0 := hw
    omega
/-! one thing -/
theorem rd1_b {tx : Int → Int} {ln sp f1 f2 f3 f4 f5 : Int} (ht : txB tx ln) (h : 0 ≤ sp ∧ sp ≤ ln) : (0 ≤ (rd1 tx ln sp f1 f2 f3 f4 f5).1 ∧ (rd1 tx ln sp f1 f2 f3 f4 f5).1 ≤ ln) ∧ ((rd1 tx ln sp f1 f2 f3 f4 f5).2.1 = 0 ∨ (rd1 tx ln sp f1 f2 f3 f4 f5).2.1 = 1) ∧ ((rd1 tx ln sp f1 f2 f3 f4 f5).2.1 = 0 → sp < (rd1 tx ln sp f1 f2 f3 f4 f5).1 ∧ ((rd1 tx ln sp f1 f2 f3 f4 f5).2.2.1 = 46 ∨ (rd1 tx ln sp f1 f2 f3 f4 f5).2.2.1 = 118 ∨ (rd1 tx ln sp f1 f2 f3 f4 f5).2.2.1 = 120)) ∧ rg (rd1 tx ln sp f1 f2 f3 f4 f5).2.2.1 ∧ rg (rd1 tx ln sp f1 f2 f3 f4 f5).2.2.2.1 ∧ ((rd1 tx ln sp f1 f2 f3 f4 f5).2.2.1 ≠ 46 → rg (rd1 tx ln sp f1 f2 f3 f4 f5).2.2.2.2.1 ∧ rg (rd1 tx ln sp f1 f2 f3 f4 f5).2.2.2.2.2.1) ∧ ((rd1 tx ln sp f1 f2 f3 f4 f5).2.2.1 ≠ 46 → (rd1 tx ln sp f1 f2 f3 f4 f5).2.2.1 ≠ 120 → (rd1 tx ln sp f1 f2 f3 f4 f5).2.1 = 0 → rg (rd1 tx ln sp f1 f2 f3 f4 f5).2.2.2.2.2.2.1 ∧ rg (rd1 tx ln sp f1 f2 f3 f4 f5).2.2.2.2.2.2.2) := by
  have hL := oL_b (sp := sp) ht h.1
  have hS := oS_b (tx := tx) h
  have hW := oW_01 tx ln sp
  have hW0 : oW tx ln sp = 0 → oL tx ln sp = 46 ∨ oL tx ln sp = 118 ∨ oL tx ln sp = 120 := by
    intro q
    apply Classical.byContradiction
    intro hn
    have : oW tx ln sp = 1 := bI_t (by omega)
    omega
  have e1 : o1s tx ln sp = tkS tx ln (oS tx ln sp) (oW tx ln sp) 48 53 := rfl
  have e2 : o1w tx ln sp = tkW tx ln (oS tx ln sp) (oW tx ln sp) 48 53 := rfl
  have e3 : o1v tx ln sp = tkV tx ln (oS tx ln sp) (oW tx ln sp) 48 53 := rfl
  have e4 : o2s tx ln sp = tkS tx ln (o1s tx ln sp) (o1w tx ln sp) 48 53 := rfl
  have e5 : o2w tx ln sp = tkW tx ln (o1s tx ln sp) (o1w tx ln sp) 48 53 := rfl
  have e6 : o2v tx ln sp = tkV tx ln (o1s tx ln sp) (o1w tx ln sp) 48 53 := rfl
  have t1 := tk_all (tx := tx) (ln := ln) (sp := oS tx ln sp) (wr := oW tx ln sp) (lo := 48) (hi := 53) (by omega) (by omega)
  rw [← e1, ← e2, ← e3] at t1
  have t2 := tk_all (tx := tx) (ln := ln) (sp := o1s tx ln sp) (wr := o1w tx ln sp) (lo := 48) (hi := 53) (by omega) (by omega)
  rw [← e4, ← e5, ← e6] at t2
  unfold rd1
  by_cases hp : oL tx ln sp = 46
  · rw [if_pos hp]
    have b := nm_b (tx := tx) (ln := ln) (sp := oS tx ln sp) (wr := oW tx ln sp) (least := 1) (most := 99) (by omega) (by omega)
    have b2 := nm_prog (tx := tx) (ln := ln) (sp := oS tx ln sp) (wr := oW tx ln sp) (least := 1) (most := 99) (by omega) (by omega)
    refine ⟨⟨b.1.1, b.1.2.1⟩, b.2.1, fun q => ⟨?_, Or.inl hp⟩, by dsimp only; constructor <;> omega, by dsimp only; constructor <;> omega, fun q => absurd hp q, fun q => absurd hp q⟩
    have := b2 q
    dsimp only; omega
  · rw [if_neg hp]
    by_cases hv : oL tx ln sp = 118
    · rw [if_pos hv]
      have u1 := tk_all (tx := tx) (ln := ln) (sp := o2s tx ln sp) (wr := o2w tx ln sp) (lo := 58) (hi := 58) (by omega) (by omega)
      have b1 := nm_b (tx := tx) (ln := ln) (sp := tkS tx ln (o2s tx ln sp) (o2w tx ln sp) 58 58) (wr := tkW tx ln (o2s tx ln sp) (o2w tx ln sp) 58 58) (least := 0) (most := 999) (by omega) (by omega)
      have c1 := nm_prog (tx := tx) (ln := ln) (sp := tkS tx ln (o2s tx ln sp) (o2w tx ln sp) 58 58) (wr := tkW tx ln (o2s tx ln sp) (o2w tx ln sp) 58 58) (least := 0) (most := 999) (by omega) (by omega)
      have e7 : nm tx ln (tkS tx ln (o2s tx ln sp) (o2w tx ln sp) 58 58) (tkW tx ln (o2s tx ln sp) (o2w tx ln sp) 58 58) 0 999 = vs1 tx ln (o2s tx ln sp) (o2w tx ln sp) := rfl
      rw [e7] at b1 c1
      generalize hV1 : vs1 tx ln (o2s tx ln sp) (o2w tx ln sp) = V1 at *
      have u2 := tk_all (tx := tx) (ln := ln) (sp := V1.2.1) (wr := V1.2.2) (lo := 45) (hi := 45) (by omega) (by omega)
      have b2 := nm_b (tx := tx) (ln := ln) (sp := tkS tx ln V1.2.1 V1.2.2 45 45) (wr := tkW tx ln V1.2.1 V1.2.2 45 45) (least := 0) (most := 999) (by omega) (by omega)
      have c2 := nm_prog (tx := tx) (ln := ln) (sp := tkS tx ln V1.2.1 V1.2.2 45 45) (wr := tkW tx ln V1.2.1 V1.2.2 45 45) (least := 0) (most := 999) (by omega) (by omega)
      have e8 : nm tx ln (tkS tx ln V1.2.1 V1.2.2 45 45) (tkW tx ln V1.2.1 V1.2.2 45 45) 0 999 = vs2 tx ln (o2s tx ln sp) (o2w tx ln sp) := by rw [vs2, hV1]
      rw [e8] at b2 c2
      generalize hV2 : vs2 tx ln (o2s tx ln sp) (o2w tx ln sp) = V2 at *
      have u3 := tk_all (tx := tx) (ln := ln) (sp := V2.2.1) (wr := V2.2.2) (lo := 42) (hi := 42) (by omega) (by omega)
      have b3 := nm_b (tx := tx) (ln := ln) (sp := tkS tx ln V2.2.1 V2.2.2 42 42) (wr := tkW tx ln V2.2.1 V2.2.2 42 42) (least := 1) (most := 99) (by omega) (by omega)
      have c3 := nm_prog (tx := tx) (ln := ln) (sp := tkS tx ln V2.2.1 V2.2.2 42 42) (wr := tkW tx ln V2.2.1 V2.2.2 42 42) (least := 1) (most := 99) (by omega) (by omega)
      have e9 : nm tx ln (tkS tx ln V2.2.1 V2.2.2 42 42) (tkW tx ln V2.2.1 V2.2.2 42 42) 1 99 = vs3 tx ln (o2s tx ln sp) (o2w tx ln sp) := by rw [vs3, hV2]
      rw [e9] at b3 c3
      generalize hV3 : vs3 tx ln (o2s tx ln sp) (o2w tx ln sp) = V3 at *
      dsimp only
      refine ⟨by omega, by omega, fun q => ⟨?_, by omega⟩, by constructor <;> omega, by constructor <;> omega, fun _ => ⟨by constructor <;> omega, by constructor <;> omega⟩, fun _ _ _ => ⟨by constructor <;> omega, by constructor <;> omega⟩⟩
      have q3 := c3 q
      omega
    · rw [if_neg hv]
      have ea : ocA tx ln sp = bI (nxt tx ln (o2s tx ln sp) (o2w tx ln sp) 33 33) := rfl
      have eb : ocB tx ln sp = bI (nxt tx ln (ocS tx ln sp) (o2w tx ln sp) 63 63) := rfl
      have ha := tkS_b (tx := tx) (ln := ln) (sp := o2s tx ln sp) (wr := o2w tx ln sp) (lo := 33) (hi := 33) (by omega)
      have hcs : ocS tx ln sp = tkS tx ln (o2s tx ln sp) (o2w tx ln sp) 33 33 := rfl
      have hb := tkS_b (tx := tx) (ln := ln) (sp := ocS tx ln sp) (wr := o2w tx ln sp) (lo := 63) (hi := 63) (by omega)
      have hct : ocT tx ln sp = tkS tx ln (ocS tx ln sp) (o2w tx ln sp) 63 63 := rfl
      have hA := bI_01 (nxt tx ln (o2s tx ln sp) (o2w tx ln sp) 33 33)
      have hB := bI_01 (nxt tx ln (ocS tx ln sp) (o2w tx ln sp) 63 63)
      rw [← ea] at hA
      rw [← eb] at hB
      dsimp only
      refine ⟨by omega, by omega, fun q => ⟨by omega, ?_⟩, by constructor <;> omega, by constructor <;> omega, fun _ => ⟨by constructor <;> omega, by constructor <;> omega⟩, fun _ q2 q => absurd ?_ q2⟩
      · have := hW0 (by omega); omega
      · have := hW0 (by omega); omega
def errOne (s : Int → Int) (le f1 f2 f3 f4 f5 : Int) : Int := if le = 46 then errPass s f1 else if le = 120 then errCross s f1 f2 f3 else errGrant s f1 f2 f3 f4 f5
def doOne (s : Int → Int) (le f1 f2 f3 f4 f5 : Int) : Int × (Int → Int) := if le = 46 then (daysN s f1.toNat, daysS s f1.toNat) else if le = 120 then (crossS s f1 f2 f3 (103 * f1 + 8), crossS s f1 f2 f3) else (usedOn (grantS s f1 f2 f3 f4 f5) f1 f2 (grantS s f1 f2 f3 f4 f5 618), grantS s f1 f2 f3 f4 f5)
theorem errOne_b (s : Int → Int) (le f1 f2 f3 f4 f5 : Int) : -16 ≤ errOne s le f1 f2 f3 f4 f5 ∧ errOne s le f1 f2 f3 f4 f5 ≤ 0 := by
  have h1 := errPass_b s f1
  have h2 := errCross_b s f1 f2 f3
  have h3 := errGrant_b s f1 f2 f3 f4 f5
  unfold errOne
  repeat' split
  all_goals omega
theorem doOne_ok {s : Int → Int} {le f1 f2 f3 f4 f5 : Int} (hO : Ok s) (h : errOne s le f1 f2 f3 f4 f5 = 0) : Ok (doOne s le f1 f2 f3 f4 f5).2 := by
  unfold errOne at h
  unfold doOne
  split
  · rename_i c
    rw [if_pos c] at h
    have hg := errPass_ok h
    exact (hO.daysS f1.toNat (by omega)).1
  · rename_i c
    rw [if_neg c] at h
    split
    · rename_i c2
      rw [if_pos c2] at h
      have hg := errCross_ok hO h
      exact hO.cross hg.1 hg.2.1 hg.2.2.1 hg.2.2.2.2.1 hg.2.2.2.2.2.1
    · rename_i c2
      rw [if_neg c2] at h
      have hg := errGrant_ok h
      exact hO.grant hg.1 hg.2.1 hg.2.2.1 hg.2.2.2.1 hg.2.2.2.2.1
/-- the reading alone: how many things, where it stands then, whether something is wrong -/
def RF (tx : Int → Int) (ln : Int) : Nat → Int → Int → Int × Int × Int
  | 0, sp, n => (n, sp, 1)
  | k + 1, sp, n => if (rd1 tx ln sp 0 0 0 0 0).2.1 = 0 then (if (rd1 tx ln sp 0 0 0 0 0).1 < ln then (if tkW tx ln (rd1 tx ln sp 0 0 0 0 0).1 0 59 59 = 0 then RF tx ln k (tkS tx ln (rd1 tx ln sp 0 0 0 0 0).1 0 59 59) (n + 1) else (n + 1, tkS tx ln (rd1 tx ln sp 0 0 0 0 0).1 0 59 59, 1)) else (n + 1, (rd1 tx ln sp 0 0 0 0 0).1, 0)) else (n, (rd1 tx ln sp 0 0 0 0 0).1, 1)
def err1 (s : Int → Int) (r : TH) : Int := errOne s r.2.2.1 r.2.2.2.1 r.2.2.2.2.1 r.2.2.2.2.2.1 r.2.2.2.2.2.2.1 r.2.2.2.2.2.2.2
def do1 (s : Int → Int) (r : TH) : Int × (Int → Int) := doOne s r.2.2.1 r.2.2.2.1 r.2.2.2.2.1 r.2.2.2.2.2.1 r.2.2.2.2.2.2.1 r.2.2.2.2.2.2.2
/-- the doing: how many things, what stopped it, the state -/
def RT (tx : Int → Int) (ln : Int) : Nat → Int → Int → (Int → Int) → Int × Int × (Int → Int)
  | 0, _, n, s => (n, 0, s)
  | k + 1, sp, n, s => if err1 s (rd1 tx ln sp 0 0 0 0 0) = 0 then (if (rd1 tx ln sp 0 0 0 0 0).1 < ln then RT tx ln k (tkS tx ln (rd1 tx ln sp 0 0 0 0 0).1 0 59 59) (n + 1) (do1 s (rd1 tx ln sp 0 0 0 0 0)).2 else (n + 1, 0, (do1 s (rd1 tx ln sp 0 0 0 0 0)).2)) else (n, err1 s (rd1 tx ln sp 0 0 0 0 0), s)
theorem rd1_0 (tx : Int → Int) (ln sp f1 f2 f3 f4 f5 : Int) : (rd1 tx ln sp f1 f2 f3 f4 f5).1 = (rd1 tx ln sp 0 0 0 0 0).1 ∧ (rd1 tx ln sp f1 f2 f3 f4 f5).2.1 = (rd1 tx ln sp 0 0 0 0 0).2.1 := by
  unfold rd1
  repeat' split
  all_goals exact ⟨rfl, rfl⟩
theorem rd1_e {tx : Int → Int} {ln sp f1 f2 f3 f4 f5 : Int} (ht : txB tx ln) (h : 0 ≤ sp ∧ sp ≤ ln) (hw : (rd1 tx ln sp f1 f2 f3 f4 f5).2.1 = 0) (s : Int → Int) : err1 s (rd1 tx ln sp f1 f2 f3 f4 f5) = err1 s (rd1 tx ln sp 0 0 0 0 0) ∧ do1 s (rd1 tx ln sp f1 f2 f3 f4 f5) = do1 s (rd1 tx ln sp 0 0 0 0 0) := by
  have hl := ((rd1_b (f1 := f1) (f2 := f2) (f3 := f3) (f4 := f4) (f5 := f5) ht h).2.2.1 hw).2
  unfold rd1 at hl ⊢
  unfold err1 do1 errOne doOne
  by_cases hp : oL tx ln sp = 46
  · simp only [if_pos hp, and_self]
  · by_cases hv : oL tx ln sp = 118
    · simp only [if_neg hp, if_pos hv, and_self]
    · simp only [if_neg hp, if_neg hv] at hl ⊢
      have hc : oL tx ln sp = 120 := by omega
      simp only [if_pos hc, and_self]
theorem RT_b {tx : Int → Int} {ln : Int} : ∀ (k : Nat) {sp n : Int} {s : Int → Int}, Ok s → Ok (RT tx ln k sp n s).2.2 ∧ -16 ≤ (RT tx ln k sp n s).2.1 ∧ (RT tx ln k sp n s).2.1 ≤ 0 ∧ n ≤ (RT tx ln k sp n s).1 ∧ (RT tx ln k sp n s).1 ≤ n + k
  | 0, sp, n, s, h => ⟨h, by show (-16 : Int) ≤ 0; omega, by show (0 : Int) ≤ 0; omega, by show n ≤ n; omega, by show n ≤ n + (0 : Nat); omega⟩
  | k + 1, sp, n, s, h => by
    have hb := errOne_b s (rd1 tx ln sp 0 0 0 0 0).2.2.1 (rd1 tx ln sp 0 0 0 0 0).2.2.2.1 (rd1 tx ln sp 0 0 0 0 0).2.2.2.2.1 (rd1 tx ln sp 0 0 0 0 0).2.2.2.2.2.1 (rd1 tx ln sp 0 0 0 0 0).2.2.2.2.2.2.1 (rd1 tx ln sp 0 0 0 0 0).2.2.2.2.2.2.2
    have he : err1 s (rd1 tx ln sp 0 0 0 0 0) = errOne s (rd1 tx ln sp 0 0 0 0 0).2.2.1 (rd1 tx ln sp 0 0 0 0 0).2.2.2.1 (rd1 tx ln sp 0 0 0 0 0).2.2.2.2.1 (rd1 tx ln sp 0 0 0 0 0).2.2.2.2.2.1 (rd1 tx ln sp 0 0 0 0 0).2.2.2.2.2.2.1 (rd1 tx ln sp 0 0 0 0 0).2.2.2.2.2.2.2 := rfl
    unfold RT
    split
    · rename_i c
      have h2 : Ok (do1 s (rd1 tx ln sp 0 0 0 0 0)).2 := doOne_ok h (by rw [← he]; exact c)
      split
      · have := RT_b (tx := tx) (ln := ln) k (sp := tkS tx ln (rd1 tx ln sp 0 0 0 0 0).1 0 59 59) (n := n + 1) h2
        refine ⟨this.1, this.2.1, this.2.2.1, by omega, by omega⟩
      · exact ⟨h2, by dsimp only; omega, by dsimp only; omega, by dsimp only; omega, by dsimp only; omega⟩
    · exact ⟨h, by dsimp only; omega, by dsimp only; omega, by dsimp only; omega, by dsimp only; omega⟩
def a_perform (A : AS) : Int × AS := if (RF A.2.2.2.2.2.1 A.2.2.2.2.2.2.1 61 0 0).2.2 ≠ 0 then (-100 - (RF A.2.2.2.2.2.1 A.2.2.2.2.2.2.1 61 0 0).2.1, A) else if (RT A.2.2.2.2.2.1 A.2.2.2.2.2.2.1 61 0 0 A.1).2.1 ≠ 0 then (-4, (A.1, A.2.1, A.2.2.1, A.2.2.2.1, A.2.2.2.2.1, A.2.2.2.2.2.1, A.2.2.2.2.2.2.1, (RT A.2.2.2.2.2.1 A.2.2.2.2.2.2.1 61 0 0 A.1).1, (RT A.2.2.2.2.2.1 A.2.2.2.2.2.2.1 61 0 0 A.1).2.1)) else ((RT A.2.2.2.2.2.1 A.2.2.2.2.2.2.1 61 0 0 A.1).1, recA A (RT A.2.2.2.2.2.1 A.2.2.2.2.2.2.1 61 0 0 A.1).2.2)
theorem RF_end {tx : Int → Int} {ln sp n : Int} {f : Nat} (hf : 0 < f) (h : (rd1 tx ln sp 0 0 0 0 0).2.1 ≠ 0) : RF tx ln f sp n = (n, (rd1 tx ln sp 0 0 0 0 0).1, 1) := by
  obtain ⟨k, rfl⟩ : ∃ k, f = k + 1 := ⟨f - 1, by omega⟩
  exact if_neg h
theorem RF_done {tx : Int → Int} {ln sp n : Int} {f : Nat} (hf : 0 < f) (h : (rd1 tx ln sp 0 0 0 0 0).2.1 = 0) (h2 : ¬ (rd1 tx ln sp 0 0 0 0 0).1 < ln) : RF tx ln f sp n = (n + 1, (rd1 tx ln sp 0 0 0 0 0).1, 0) := by
  obtain ⟨k, rfl⟩ : ∃ k, f = k + 1 := ⟨f - 1, by omega⟩
  unfold RF
  rw [if_pos h, if_neg h2]
theorem RF_sep {tx : Int → Int} {ln sp n : Int} {f : Nat} (hf : 0 < f) (h : (rd1 tx ln sp 0 0 0 0 0).2.1 = 0) (h2 : (rd1 tx ln sp 0 0 0 0 0).1 < ln) (h3 : tkW tx ln (rd1 tx ln sp 0 0 0 0 0).1 0 59 59 ≠ 0) : RF tx ln f sp n = (n + 1, tkS tx ln (rd1 tx ln sp 0 0 0 0 0).1 0 59 59, 1) := by
  obtain ⟨k, rfl⟩ : ∃ k, f = k + 1 := ⟨f - 1, by omega⟩
  rw [RF, if_pos h, if_pos h2, if_neg h3]
theorem RF_step {tx : Int → Int} {ln sp n : Int} {f : Nat} (hf : 0 < f) (h : (rd1 tx ln sp 0 0 0 0 0).2.1 = 0) (h2 : (rd1 tx ln sp 0 0 0 0 0).1 < ln) (h3 : tkW tx ln (rd1 tx ln sp 0 0 0 0 0).1 0 59 59 = 0) : RF tx ln f sp n = RF tx ln (f - 1) (tkS tx ln (rd1 tx ln sp 0 0 0 0 0).1 0 59 59) (n + 1) := by
  obtain ⟨k, rfl⟩ : ∃ k, f = k + 1 := ⟨f - 1, by omega⟩
  rw [RF, if_pos h, if_pos h2, if_pos h3]; rfl
theorem RF_free {tx : Int → Int} {ln sp n : Int} {f : Nat} (hf : 0 < f) (hh : (RF tx ln f sp n).2.2 = 0) : (rd1 tx ln sp 0 0 0 0 0).2.1 = 0 ∧ ((rd1 tx ln sp 0 0 0 0 0).1 < ln → tkW tx ln (rd1 tx ln sp 0 0 0 0 0).1 0 59 59 = 0 ∧ (RF tx ln (f - 1) (tkS tx ln (rd1 tx ln sp 0 0 0 0 0).1 0 59 59) (n + 1)).2.2 = 0) := by
  by_cases h : (rd1 tx ln sp 0 0 0 0 0).2.1 = 0
  · refine ⟨h, fun h2 => ?_⟩
    by_cases h3 : tkW tx ln (rd1 tx ln sp 0 0 0 0 0).1 0 59 59 = 0
    · rw [RF_step hf h h2 h3] at hh
      exact ⟨h3, hh⟩
    · rw [RF_sep hf h h2 h3] at hh
      exact absurd (show (1 : Int) = 0 from hh) (by decide)
  · rw [RF_end hf h] at hh
    exact absurd (show (1 : Int) = 0 from hh) (by decide)
theorem RT_stop {tx : Int → Int} {ln sp n : Int} {s : Int → Int} {f : Nat} (hf : 0 < f) (h : err1 s (rd1 tx ln sp 0 0 0 0 0) ≠ 0) : RT tx ln f sp n s = (n, err1 s (rd1 tx ln sp 0 0 0 0 0), s) := by
  obtain ⟨k, rfl⟩ : ∃ k, f = k + 1 := ⟨f - 1, by omega⟩
  exact if_neg h
theorem RT_done {tx : Int → Int} {ln sp n : Int} {s : Int → Int} {f : Nat} (hf : 0 < f) (h : err1 s (rd1 tx ln sp 0 0 0 0 0) = 0) (h2 : ¬ (rd1 tx ln sp 0 0 0 0 0).1 < ln) : RT tx ln f sp n s = (n + 1, 0, (do1 s (rd1 tx ln sp 0 0 0 0 0)).2) := by
  obtain ⟨k, rfl⟩ : ∃ k, f = k + 1 := ⟨f - 1, by omega⟩
  rw [RT, if_pos h, if_neg h2]
theorem RT_step {tx : Int → Int} {ln sp n : Int} {s : Int → Int} {f : Nat} (hf : 0 < f) (h : err1 s (rd1 tx ln sp 0 0 0 0 0) = 0) (h2 : (rd1 tx ln sp 0 0 0 0 0).1 < ln) : RT tx ln f sp n s = RT tx ln (f - 1) (tkS tx ln (rd1 tx ln sp 0 0 0 0 0).1 0 59 59) (n + 1) (do1 s (rd1 tx ln sp 0 0 0 0 0)).2 := by
  obtain ⟨k, rfl⟩ : ∃ k, f = k + 1 := ⟨f - 1, by omega⟩
  rw [RT, if_pos h, if_pos h2]; rfl
theorem RF_w {tx : Int → Int} {ln : Int} : ∀ (k : Nat) (sp n : Int), (RF tx ln k sp n).2.2 = 0 ∨ (RF tx ln k sp n).2.2 = 1
  | 0, _, _ => Or.inr rfl
  | k + 1, sp, n => by
    unfold RF
    repeat' split
    · exact RF_w k _ _
    · exact Or.inr rfl
    · exact Or.inl rfl
    · exact Or.inr rfl
