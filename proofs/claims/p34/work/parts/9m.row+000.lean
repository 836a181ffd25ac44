/-! a ROW -/
def r_MR (p a : Int) (g0 : Int → Int) (M0 : EM) (o : EO) : Prop := ∃ r M', o = some (r, M') ∧ r_mk p 1 g0 M0 M' ∧ a < M' 192 15 ∧ M' 192 15 ≤ 130 ∧ (r = 0 ∨ r = 1) ∧ (r = 1 → r_rw (r_G M') (p + 1) p)
/-- n members so far -/
def r_RI (p : Int) (g0 : Int → Int) (M0 : EM) (n x4 : Int) (N : EM) : Prop := r_mk p 1 g0 M0 N ∧ (0 ≤ n ∧ n ≤ 8) ∧ (x4 = 0 ∨ x4 = 1) ∧ (x4 = 1 → ∀ k, 0 ≤ k → k < n → r_cl g0 p (r_G N (28 * p + 3 + k)))
/-- what goes on from a ROW's next ITEM -/
def r_RH (p a : Int) (g0 : Int → Int) (M0 : EM) : Prop := ∀ N n gr x4 x5 x6 x7, r_RI p g0 M0 n x4 N → a < N 192 15 → N 192 15 < M0 192 17 → (0 ≤ gr ∧ gr ≤ N 192 15) → (x4 = 1 → gr ≤ n) → r_MR p a g0 M0 (E_V 186 7 [192, p, n, gr, x4, x5, x6, x7] N)
