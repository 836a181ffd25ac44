theorem r_ent {u : Nat} {as : List Int} {M : EM} (hr : e_rok u as = true) : E_C u as M = e_tv E_C (E_V u) (e_tr u 0) (e_pad u as) M := (show E_C u as M = E_V u 0 (e_pad u as) M from if_pos hr).trans (E_V_eq u 0 (e_pad u as) M)
/-- the row s by whole numbers -/
def r_G (M : EM) (i : Int) : Int := M 193 i.toNat
theorem r_rd {i : Int} {M : EM} (h0 : 0 ≤ i) (hi : i < 1330) : e_op 60 [193, i] M = some (r_G M i) := r_s h0 hi
def r_lies (g : Int → Int) (x : Int) : Prop := g (28 * x + 20) = 0 ∨ (0 ≤ g (28 * x + 21) ∧ g (28 * x + 21) ≤ g (28 * x + 23) ∧ g (28 * x + 23) ≤ 19 ∧ 0 ≤ g (28 * x + 22) ∧ g (28 * x + 22) ≤ g (28 * x + 24) ∧ g (28 * x + 24) ≤ 11)
/-- a CELL ahead of b -/
def r_cl (g : Int → Int) (b x : Int) : Prop := 0 ≤ x ∧ x < b ∧ g (28 * x) = 0 ∧ 0 ≤ g (28 * x + 2) ∧ g (28 * x + 2) ≤ 6 ∧ r_lies g x
def r_rw (g : Int → Int) (b x : Int) : Prop := 0 ≤ x ∧ x < b ∧ g (28 * x) = 1 ∧ 0 ≤ g (28 * x + 2) ∧ g (28 * x + 2) ≤ 8 ∧ 0 ≤ g (28 * x + 19) ∧ g (28 * x + 19) ≤ 8 ∧ ∀ k, 0 ≤ k → k < g (28 * x + 2) → r_cl g x (g (28 * x + 3 + k))
def r_fd (g : Int → Int) (b x : Int) : Prop := 0 ≤ x ∧ x < b ∧ g (28 * x) = 2 ∧ 0 ≤ g (28 * x + 2) ∧ g (28 * x + 2) ≤ 6 ∧ ∀ k, 0 ≤ k → k < g (28 * x + 2) → r_cl g x (g (28 * x + 3 + k)) ∨ r_rw g x (g (28 * x + 3 + k))
def r_bx (g : Int → Int) (b x : Int) : Prop := 0 ≤ x ∧ x < b ∧ g (28 * x) = 3 ∧ (g (28 * x + 2) = 1 ∧ 0 ≤ g (28 * x + 4)) ∧ (r_cl g x (g (28 * x + 3)) ∨ r_rw g x (g (28 * x + 3)) ∨ r_fd g x (g (28 * x + 3)))
def r_pt (g : Int → Int) (b x : Int) : Prop := r_cl g b x ∨ r_rw g b x ∨ r_fd g b x ∨ r_bx g b x
/-- the store and the sky -/
def r_Z (g : Int → Int) : Prop := 0 ≤ g 1199 ∧ g 1199 ≤ 30 ∧ (∀ h, 0 ≤ h → h < 12 → 0 ≤ g (1174 + 2 * h) ∧ g (1174 + 2 * h) ≤ 20 ∧ 0 ≤ g (1174 + 2 * h + 1) ∧ g (1174 + 2 * h + 1) ≤ 99) ∧ 0 ≤ g 1200 ∧ g 1200 ≤ 120
def r_W (g : Int → Int) : Prop := 0 ≤ g 1198 ∧ g 1198 ≤ 40 ∧ (∀ x, 0 ≤ x → x < g 1198 → r_pt g (g 1198) x) ∧ r_Z g
