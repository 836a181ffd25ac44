/-! the reference reads a TEXT's shape: exactly -/
def y_s (b : Nat → Int) (n k : Nat) : Int := if k < n then b k else -1000
/-- the row that is read, and where the reference stands in it -/
def y_B (b : Nat → Int) (n k : Nat) (M : EM) : Prop := a_M M ∧ M 192 15 = k ∧ k ≤ n ∧ M 192 17 = n ∧ n ≤ 120 ∧ 0 ≤ M 192 16 ∧ M 192 16 ≤ 840 ∧ ∀ i, i < n → M 198 ((M 192 16).toNat + i) = b i
