/-! HOW MANY DAYS: the class's sum over the steps is the count over the days -/
theorem sumI_add (f h : Int → Int) : ∀ n : Nat, sumI (fun i => f i + h i) n = sumI f n + sumI h n
  | 0 => rfl
  | n + 1 => by rw [sumI_s, sumI_s, sumI_s, sumI_add f h n]; omega
theorem sumI_z {f : Int → Int} : ∀ {n : Nat}, (∀ i : Nat, i < n → f i = 0) → sumI f n = 0
  | 0, _ => rfl
  | n + 1, h => by rw [sumI_s, sumI_z (fun i hi => h i (by omega)), h n (by omega)]; rfl
theorem sumI_one {f : Int → Int} {L : Nat} : ∀ {n : Nat}, L < n → (∀ i : Nat, i < n → i ≠ L → f i = 0) → sumI f n = f L
  | 0, h, _ => absurd h (by omega)
  | n + 1, h, hz => by
    rw [sumI_s]
    by_cases q : L = n
    · subst q; rw [sumI_z (fun i hi => hz i (by omega) (by omega))]; omega
    · rw [sumI_one (n := n) (by omega) (fun i hi hn => hz i (by omega) hn), hz n (by omega) (fun e => q e.symm)]; omega
def dInd (D P : Int → Int) (K c t i : Int) : Int := bI (P i = c ∧ (D i ≤ t ∧ (i < K → t < D (i + 1))))
theorem dTerm_s {D P : Int → Int} {K c a u i : Int} (h : a ≤ u + 1) (hm : i < K → D i ≤ D (i + 1)) : dTerm D P K c a (u + 1) i = dTerm D P K c a u i + dInd D P K c (u + 1) i := by
  unfold dTerm dFst dLst dInd bI
  repeat' split
  all_goals omega
theorem dTerm_0 {D P : Int → Int} {K c a u i : Int} (h : u < a) : dTerm D P K c a u i = 0 := by
  unfold dTerm dFst dLst
  repeat' split
  all_goals omega
theorem lead_ch {D : Int → Int} {t : Int} : ∀ (f : Nat) {i : Int}, D i ≤ t → i ≤ lead D t f i ∧ lead D t f i ≤ i + f ∧ D (lead D t f i) ≤ t ∧ (lead D t f i < i + f → t < D (lead D t f i + 1))
  | 0, i, h => ⟨by show i ≤ i; omega, by show i ≤ i + (0 : Nat); omega, h, fun q => absurd q (by show ¬ i < i + (0 : Nat); omega)⟩
  | f + 1, i, h => by
    unfold lead
    by_cases q : D (i + 1) ≤ t
    · rw [if_pos q]
      have := lead_ch f (i := i + 1) q
      exact ⟨by omega, by omega, this.2.2.1, fun x => this.2.2.2 (by omega)⟩
    · rw [if_neg q]; exact ⟨by omega, by omega, h, fun _ => by omega⟩
theorem mono2 {D : Int → Int} {K : Int} (hm : ∀ i, 0 ≤ i → i < K → D i ≤ D (i + 1)) : ∀ (n : Nat) {i : Int}, 0 ≤ i → i + n ≤ K → D i ≤ D (i + n)
  | 0, i, _, _ => by rw [show i + (0 : Nat) = i by omega]; omega
  | n + 1, i, h, h2 => by
    have h3 := mono2 hm n h (by omega)
    have h4 := hm (i + n) (by omega) (by omega)
    rw [show i + (n : Int) + 1 = i + ((n + 1 : Nat) : Int) by omega] at h4
    omega
theorem dInd_sum {D P : Int → Int} {K c t : Int} (hK : 0 ≤ K) (hc : c ≠ -5) (hm : ∀ i, 0 ≤ i → i < K → D i ≤ D (i + 1)) : sumI (dInd D P K c t) (K + 1).toNat = bI (trAt D P K t = c) := by
  unfold trAt
  by_cases h0 : t < D 0
  · have e : ¬ ((if t < D 0 then -5 else P (lead D t K.toNat 0)) = c) := by rw [if_pos h0]; exact fun q => hc q.symm
    rw [bI_f e]
    refine sumI_z fun i hi => bI_f fun q => ?_
    have := mono2 hm i (i := 0) (by omega) (by omega)
    rw [show (0 : Int) + i = i by omega] at this
    omega
  · have hl := lead_ch (t := t) (D := D) K.toNat (i := 0) (by omega)
    generalize lead D t K.toNat 0 = L at hl ⊢
    have hLn : (L.toNat : Int) = L := by omega
    rw [sumI_one (f := dInd D P K c t) (L := L.toNat) (by omega) (fun i hi hn => bI_f fun q => ?_)]
    · rw [hLn]
      unfold dInd
      by_cases hp : P L = c
      · have e : (if t < D 0 then -5 else P L) = c := by rw [if_neg h0]; exact hp
        rw [bI_t e, bI_t ⟨hp, hl.2.2.1, fun x => hl.2.2.2 (by omega)⟩]
      · have e : ¬ ((if t < D 0 then -5 else P L) = c) := by rw [if_neg h0]; exact hp
        rw [bI_f e, bI_f (fun x => hp x.1)]
    · by_cases hlt : (i : Int) < L
      · have h5 := mono2 hm (L.toNat - i - 1) (i := (i : Int) + 1) (by omega) (by omega)
        rw [show (i : Int) + 1 + ((L.toNat - i - 1 : Nat) : Int) = L by omega] at h5
        have := q.2.2 (by omega)
        omega
      · have h5 := mono2 hm (i - L.toNat - 1) (i := L + 1) (by omega) (by omega)
        rw [show L + 1 + ((i - L.toNat - 1 : Nat) : Int) = i by omega] at h5
        have := hl.2.2.2 (by omega)
        omega
theorem dSum_days {D P : Int → Int} {K c a : Int} (hK : 0 ≤ K) (hc : c ≠ -5) (hm : ∀ i, 0 ≤ i → i < K → D i ≤ D (i + 1)) : ∀ len : Nat, dSum D P K c a (a - 1 + len) (K + 1).toNat = daysOn D P K c a len
  | 0 => sumI_z fun i _ => dTerm_0 (by omega)
  | len + 1 => by
    have ih := dSum_days (P := P) (a := a) hK hc hm len
    have e : daysOn D P K c a (len + 1) = daysOn D P K c a len + bI (trAt D P K (a + len) = c) := rfl
    rw [e, ← ih, ← dInd_sum hK hc hm]
    unfold dSum
    rw [← sumI_add]
    refine sumI_c fun i hi => ?_
    rw [show a - 1 + ((len + 1 : Nat) : Int) = a - 1 + len + 1 by omega, show a + (len : Int) = a - 1 + len + 1 by omega]
    exact dTerm_s (by omega) (fun q => hm i (by omega) q)
theorem dSum_u {D P : Int → Int} {K c a u day : Int} (hK : 0 ≤ K) (hc : c ≠ -5) (hm : ∀ i, 0 ≤ i → i < K → D i ≤ D (i + 1)) : dSum D P K c a (min u (day - 1)) (K + 1).toNat = daysOn D P K c a (min (u + 1) day - a).toNat := by
  by_cases h : a ≤ min (u + 1) day
  · rw [← dSum_days hK hc hm, show a - 1 + (((min (u + 1) day - a).toNat : Nat) : Int) = min u (day - 1) by omega]
  · rw [show (min (u + 1) day - a).toNat = 0 by omega]
    exact sumI_z fun i _ => dTerm_0 (by omega)
theorem dSum_c {D P D' P' : Int → Int} {K c a u : Int} (h : ∀ i, 0 ≤ i → i ≤ K → D i = D' i ∧ P i = P' i) : dSum D P K c a u (K + 1).toNat = dSum D' P' K c a u (K + 1).toNat := by
  refine sumI_c fun i hi => ?_
  have h1 := h i (by omega) (by omega)
  unfold dTerm dFst dLst
  rw [h1.1, h1.2]
  by_cases hk : (i : Int) < K
  · rw [(h (i + 1) (by omega) (by omega)).1]
  · simp only [hk, false_and, if_false]
section
variable {s : Int → Int} {p hm os nb jk bk : Int} {jd jp bd bp bc : Int → Int}
theorem told_eq (hR : HolR s p hm os nb jd jp jk bd bp bk bc) (hk : OkP s p) {c a u day : Int} (hc : 0 ≤ c) : dSum bd bp bk c a (min u (day - 1)) (bk + 1).toNat = toldDays s p c a u day := by
  rw [dSum_c hR.2.2.1, hR.1.2.2.2.2]
  exact dSum_u hk.stm.1 (by omega) (fun i h0 h1 => (hk.bd h0 h1).1)
theorem real_eq (hR : HolR s p hm os nb jd jp jk bd bp bk bc) (hk : OkP s p) {c a u day : Int} (hc : 0 ≤ c) : dSum jd jp jk c a (min u (day - 1)) (jk + 1).toNat = realDays s p c a u day := by
  rw [dSum_c hR.2.1, hR.1.2.2.2.1]
  exact dSum_u hk.crs.1 (by omega) (fun i h0 h1 => (hk.jd h0 h1).1)
end
/-! what a holder's rows are, from what they tell -/
section
variable {s : Int → Int} {p hm os nb jk bk : Int} {jd jp bd bp bc : Int → Int}
theorem HolR.jOk (hR : HolR s p hm os nb jd jp jk bd bp bk bc) (hk : OkP s p) : TrOk 61 jd jp jk := by
  have h1 := hk.crs
  have h2 := hk.iss
  have h3 := hk.bgo
  have h4 := hk.home
  have e := hR.1.2.2.2.1
  refine ⟨by omega, fun i h0 hi => ?_⟩
  rw [(hR.2.1 i h0 hi).1, (hR.2.1 i h0 hi).2]
  unfold jD jP
  by_cases hz : i = 0
  · rw [if_pos hz, if_pos hz]; omega
  · rw [if_neg hz, if_neg hz]
    have h5 := hk.cr (k := i - 1) (by omega) (by omega)
    have h6 := (hk.jd (k := i - 1) (by omega) (by omega)).2
    rw [show i - 1 + 1 = i by omega] at h6
    unfold jD at h6
    rw [if_neg hz] at h6
    omega
theorem HolR.bOk (hR : HolR s p hm os nb jd jp jk bd bp bk bc) (hk : OkP s p) : BoOk bd bp bk bc := by
  have h1 := hk.stm
  have h2 := hk.iss
  have h3 := hk.bgo
  have h4 := hk.bgn
  have e := hR.1.2.2.2.2
  refine ⟨⟨by omega, fun i h0 hi => ?_⟩, fun r h0 hr => ?_⟩
  · rw [(hR.2.2.1 i h0 hi).1, (hR.2.2.1 i h0 hi).2]
    unfold bD bP stC stD
    by_cases hz : i = 0
    · rw [if_pos hz, if_pos hz]; omega
    · rw [if_neg hz, if_neg hz]
      have h5 := hk.st (r := i - 1) (by omega) (by omega)
      have h6 := (hk.bd (r := i - 1) (by omega) (by omega)).2
      rw [show i - 1 + 1 = i by omega] at h6
      unfold bD stD at h6
      rw [if_neg hz] at h6
      split <;> omega
  · rw [hR.2.2.2 r h0 hr]
    have h5 := hk.st (r := r) h0 (by omega)
    unfold stC
    omega
end
