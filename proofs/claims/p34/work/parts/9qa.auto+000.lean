/-! a TEXT's shape, byte by byte: what is expected (2), which statement (3), behind a push (4), under a diode (5), groups (6), statements (7), numbers (8) -/
def w_ok (s : Nat → Int) (c : Int) : Prop :=
  if s 2 = 0 then c = 99 ∨ c = 114 ∨ c = 102 ∨ c = 98
  else if s 2 = 1 then (48 ≤ c ∧ c ≤ 57) ∨ (c = 91 ∧ s 3 = 114 ∧ s 5 = 0)
  else (s 2 = 2 ∧ 48 ≤ c ∧ c ≤ 57) ∨ (c = 47 ∧ s 3 = 99 ∧ s 4 = 0) ∨ (c = 93 ∧ s 5 ≠ 0) ∨ (c = 32 ∧ s 3 ≠ 98 ∧ ¬ (s 3 = 99 ∧ s 4 = 0)) ∨ (c = 59 ∧ s 5 = 0 ∧ ¬ (s 3 = 99 ∧ s 4 = 0))
def w_nx (s : Nat → Int) (c : Int) : Nat → Int :=
  if s 2 = 0 then fun j => if j = 2 then 1 else if j = 3 then c else if j = 4 then 0 else if j = 5 then 0 else if j = 6 then 1 else s j
  else if s 2 = 1 then (if 48 ≤ c ∧ c ≤ 57 then fun j => if j = 8 then s 8 + 1 else if j = 2 then (if c = 48 then 3 else 2) else s j else fun j => if j = 5 then 1 else s j)
  else if s 2 = 2 ∧ 48 ≤ c ∧ c ≤ 57 then fun j => if j = 2 then 3 else s j
  else if c = 47 then fun j => if j = 4 then 1 else if j = 2 then 1 else s j
  else if c = 93 then fun j => if j = 5 then 0 else if j = 2 then 3 else s j
  else if c = 32 then fun j => if j = 6 then (if s 5 = 0 then s 6 + 1 else s 6) else if j = 4 then 0 else if j = 2 then 1 else s j
  else fun j => if j = 7 then s 7 + 1 else if j = 2 then 0 else s j
