def w_T (b : Nat → Int) : Nat → Nat → Int
  | 0 => fun _ => 0
  | k + 1 => w_nx (w_T b k) (b k)
def w_A (b : Nat → Int) (k : Nat) : Prop := ∀ j, j < k → w_ok (w_T b j) (b j)
/-- the first place where it can't go on -/
def w_F (b : Nat → Int) (n k : Nat) : Prop := w_A b k ∧ k ≤ n ∧ (k < n → ¬ w_ok (w_T b k) (b k)) ∧ (k = n → ¬ (w_T b n 2 = 0 ∧ 0 < w_T b n 7))
def w_N (b : Nat → Int) (k : Nat) : Prop := w_T b k 2 = 1 ∧ 48 ≤ b k ∧ b k ≤ 57
/-- the number that begins at k, in a text of n bytes -/
def w_v (b : Nat → Int) (n k : Nat) : Int := if b k ≠ 48 ∧ k + 1 < n ∧ 48 ≤ b (k + 1) ∧ b (k + 1) ≤ 57 then 10 * (b k - 48) + b (k + 1) - 48 else b k - 48
