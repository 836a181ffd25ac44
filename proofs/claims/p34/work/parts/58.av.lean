/-! what the analysis knows of a value: a number lies between two, perhaps not 0; an object is one of some; none: anything; and what a local is bound to -/
abbrev AV : Type := Option ((Int × Int × Bool) ⊕ List Int)
abbrev AT : Type := List (Nat × Bool × Int)
