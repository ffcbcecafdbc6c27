theorem lcLe_n : lcLe [] [] := trivial
theorem lcLe_s {a : Option Value} {r t : List (Option Value)} (h : lcLe r t) : lcLe (a :: r) (a :: t) := ⟨Or.inr rfl, h⟩
theorem lcLe_f {b : Option Value} {r t : List (Option Value)} (h : lcLe r t) : lcLe (none :: r) (b :: t) := ⟨Or.inl rfl, h⟩
theorem V.weak2 {E : Ev} {X : Cx} {nc ns n pc : Nat} {M : Mem} {lc lc' : List (Option Value)} {st : List Value} (k : V E X nc ns n M pc lc' st) (h : lcLe lc' lc) : V E X nc ns n M pc lc st := V.weak h k
