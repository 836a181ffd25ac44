/-! THE REFERENCE'S ROW AS TOLD: what holds of it behind every call, as far as no call needs more to come to an end -/
theorem r_F9 {M : EM} : e_gf 777 [192] M = some (M 192 9) := c_gf r_ref (by decide +kernel)
theorem r_P9 {M : EM} {v : Int} : e_pf 777 [192, v] M = some (e_up M 192 9 v) := c_pf r_ref (by decide +kernel)
theorem r_F10 {M : EM} : e_gf 778 [192] M = some (M 192 10) := c_gf r_ref (by decide +kernel)
theorem r_P10 {M : EM} {v : Int} : e_pf 778 [192, v] M = some (e_up M 192 10 v) := c_pf r_ref (by decide +kernel)
theorem r_F13 {M : EM} : e_gf 781 [192] M = some (M 192 13) := c_gf r_ref (by decide +kernel)
theorem r_P13 {M : EM} {v : Int} : e_pf 781 [192, v] M = some (e_up M 192 13 v) := c_pf r_ref (by decide +kernel)
theorem r_F14 {M : EM} : e_gf 782 [192] M = some (M 192 14) := c_gf r_ref (by decide +kernel)
theorem r_P14 {M : EM} {v : Int} : e_pf 782 [192, v] M = some (e_up M 192 14 v) := c_pf r_ref (by decide +kernel)
theorem r_F15 {M : EM} : e_gf 783 [192] M = some (M 192 15) := c_gf r_ref (by decide +kernel)
theorem r_P15 {M : EM} {v : Int} : e_pf 783 [192, v] M = some (e_up M 192 15 v) := c_pf r_ref (by decide +kernel)
theorem r_F16 {M : EM} : e_gf 784 [192] M = some (M 192 16) := c_gf r_ref (by decide +kernel)
theorem r_P16 {M : EM} {v : Int} : e_pf 784 [192, v] M = some (e_up M 192 16 v) := c_pf r_ref (by decide +kernel)
theorem r_F17 {M : EM} : e_gf 785 [192] M = some (M 192 17) := c_gf r_ref (by decide +kernel)
theorem r_P17 {M : EM} {v : Int} : e_pf 785 [192, v] M = some (e_up M 192 17 v) := c_pf r_ref (by decide +kernel)
theorem r_F18 {M : EM} : e_gf 786 [192] M = some (M 192 18) := c_gf r_ref (by decide +kernel)
theorem r_P18 {M : EM} {v : Int} : e_pf 786 [192, v] M = some (e_up M 192 18 v) := c_pf r_ref (by decide +kernel)
theorem r_F20 {M : EM} : e_gf 788 [192] M = some (M 192 20) := c_gf r_ref (by decide +kernel)
theorem r_P20 {M : EM} {v : Int} : e_pf 788 [192, v] M = some (e_up M 192 20 v) := c_pf r_ref (by decide +kernel)
theorem r_F21 {M : EM} : e_gf 789 [192] M = some (M 192 21) := c_gf r_ref (by decide +kernel)
theorem r_P21 {M : EM} {v : Int} : e_pf 789 [192, v] M = some (e_up M 192 21 v) := c_pf r_ref (by decide +kernel)
theorem r_F22 {M : EM} : e_gf 790 [192] M = some (M 192 22) := c_gf r_ref (by decide +kernel)
theorem r_P22 {M : EM} {v : Int} : e_pf 790 [192, v] M = some (e_up M 192 22 v) := c_pf r_ref (by decide +kernel)
theorem r_F23 {M : EM} : e_gf 791 [192] M = some (M 192 23) := c_gf r_ref (by decide +kernel)
theorem r_P23 {M : EM} {v : Int} : e_pf 791 [192, v] M = some (e_up M 192 23 v) := c_pf r_ref (by decide +kernel)
theorem r_F24 {M : EM} : e_gf 792 [192] M = some (M 192 24) := c_gf r_ref (by decide +kernel)
theorem r_P24 {M : EM} {v : Int} : e_pf 792 [192, v] M = some (e_up M 192 24 v) := c_pf r_ref (by decide +kernel)
theorem r_F27 {M : EM} : e_gf 795 [192] M = some (M 192 27) := c_gf r_ref (by decide +kernel)
theorem r_P27 {M : EM} {v : Int} : e_pf 795 [192, v] M = some (e_up M 192 27 v) := c_pf r_ref (by decide +kernel)
theorem r_F28 {M : EM} : e_gf 796 [192] M = some (M 192 28) := c_gf r_ref (by decide +kernel)
theorem r_P28 {M : EM} {v : Int} : e_pf 796 [192, v] M = some (e_up M 192 28 v) := c_pf r_ref (by decide +kernel)
theorem r_F29 {M : EM} : e_gf 797 [192] M = some (M 192 29) := c_gf r_ref (by decide +kernel)
theorem r_P29 {M : EM} {v : Int} : e_pf 797 [192, v] M = some (e_up M 192 29 v) := c_pf r_ref (by decide +kernel)
theorem r_F30 {M : EM} : e_gf 798 [192] M = some (M 192 30) := c_gf r_ref (by decide +kernel)
theorem r_P30 {M : EM} {v : Int} : e_pf 798 [192, v] M = some (e_up M 192 30 v) := c_pf r_ref (by decide +kernel)
theorem r_F33 {M : EM} : e_gf 801 [192] M = some (M 192 33) := c_gf r_ref (by decide +kernel)
theorem r_P33 {M : EM} {v : Int} : e_pf 801 [192, v] M = some (e_up M 192 33 v) := c_pf r_ref (by decide +kernel)
theorem r_F34 {M : EM} : e_gf 802 [192] M = some (M 192 34) := c_gf r_ref (by decide +kernel)
theorem r_P34 {M : EM} {v : Int} : e_pf 802 [192, v] M = some (e_up M 192 34 v) := c_pf r_ref (by decide +kernel)
theorem r_F35 {M : EM} : e_gf 803 [192] M = some (M 192 35) := c_gf r_ref (by decide +kernel)
theorem r_P35 {M : EM} {v : Int} : e_pf 803 [192, v] M = some (e_up M 192 35 v) := c_pf r_ref (by decide +kernel)
theorem r_O0 {M : EM} : e_gf 768 [192] M = some 193 := r_g 768 193 M (by decide +kernel)
theorem r_O1 {M : EM} : e_gf 769 [192] M = some 194 := r_g 769 194 M (by decide +kernel)
theorem r_O2 {M : EM} : e_gf 770 [192] M = some 195 := r_g 770 195 M (by decide +kernel)
theorem r_O3 {M : EM} : e_gf 771 [192] M = some 196 := r_g 771 196 M (by decide +kernel)
theorem r_O4 {M : EM} : e_gf 772 [192] M = some 197 := r_g 772 197 M (by decide +kernel)
theorem r_O5 {M : EM} : e_gf 773 [192] M = some 198 := r_g 773 198 M (by decide +kernel)
theorem r_O6 {M : EM} : e_gf 774 [192] M = some 199 := r_g 774 199 M (by decide +kernel)
theorem r_O7 {M : EM} : e_gf 775 [192] M = some 200 := r_g 775 200 M (by decide +kernel)
theorem r_O8 {M : EM} : e_gf 776 [192] M = some 201 := r_g 776 201 M (by decide +kernel)
theorem r_O11 {M : EM} : e_gf 779 [192] M = some 202 := r_g 779 202 M (by decide +kernel)
theorem r_O12 {M : EM} : e_gf 780 [192] M = some 203 := r_g 780 203 M (by decide +kernel)
theorem r_O19 {M : EM} : e_gf 787 [192] M = some 204 := r_g 787 204 M (by decide +kernel)
theorem r_O25 {M : EM} : e_gf 793 [192] M = some 205 := r_g 793 205 M (by decide +kernel)
theorem r_O26 {M : EM} : e_gf 794 [192] M = some 206 := r_g 794 206 M (by decide +kernel)
theorem r_O31 {M : EM} : e_gf 799 [192] M = some 207 := r_g 799 207 M (by decide +kernel)
theorem r_O32 {M : EM} : e_gf 800 [192] M = some 208 := r_g 800 208 M (by decide +kernel)
theorem r_O36 {M : EM} : e_gf 804 [192] M = some 209 := r_g 804 209 M (by decide +kernel)
theorem r_O37 {M : EM} : e_gf 805 [192] M = some 210 := r_g 805 210 M (by decide +kernel)
theorem r_O38 {M : EM} : e_gf 806 [192] M = some 211 := r_g 806 211 M (by decide +kernel)
theorem r_O39 {M : EM} : e_gf 807 [192] M = some 212 := r_g 807 212 M (by decide +kernel)
theorem r_ent {u : Nat} {as : List Int} {M : EM} (hr : e_rok u as = true) : E_C u as M = e_tv E_C (E_V u) (e_tr u 0) (e_pad u as) M := (show E_C u as M = E_V u 0 (e_pad u as) M from if_pos hr).trans (E_V_eq u 0 (e_pad u as) M)
/-- the row s by whole numbers -/
def r_G (M : EM) (i : Int) : Int := M 193 i.toNat
theorem r_rd {i : Int} {M : EM} (h0 : 0 ≤ i) (hi : i < 1330) : e_op 60 [193, i] M = some (r_G M i) := r_s h0 hi
def r_lies (g : Int → Int) (x : Int) : Prop := g (28 * x + 20) = 0 ∨ (0 ≤ g (28 * x + 21) ∧ g (28 * x + 21) ≤ g (28 * x + 23) ∧ g (28 * x + 23) ≤ 19 ∧ 0 ≤ g (28 * x + 22) ∧ g (28 * x + 22) ≤ g (28 * x + 24) ∧ g (28 * x + 24) ≤ 11)
/-- a CELL ahead of b -/
def r_cl (g : Int → Int) (b x : Int) : Prop := 0 ≤ x ∧ x < b ∧ g (28 * x) = 0 ∧ 0 ≤ g (28 * x + 2) ∧ g (28 * x + 2) ≤ 6 ∧ r_lies g x
def r_rw (g : Int → Int) (b x : Int) : Prop := 0 ≤ x ∧ x < b ∧ g (28 * x) = 1 ∧ 0 ≤ g (28 * x + 2) ∧ g (28 * x + 2) ≤ 8 ∧ 0 ≤ g (28 * x + 19) ∧ g (28 * x + 19) ≤ 8 ∧ ∀ k, 0 ≤ k → k < g (28 * x + 2) → r_cl g x (g (28 * x + 3 + k))
def r_fd (g : Int → Int) (b x : Int) : Prop := 0 ≤ x ∧ x < b ∧ g (28 * x) = 2 ∧ 0 ≤ g (28 * x + 2) ∧ g (28 * x + 2) ≤ 6 ∧ ∀ k, 0 ≤ k → k < g (28 * x + 2) → r_cl g x (g (28 * x + 3 + k)) ∨ r_rw g x (g (28 * x + 3 + k))
def r_bx (g : Int → Int) (b x : Int) : Prop := 0 ≤ x ∧ x < b ∧ g (28 * x) = 3 ∧ (g (28 * x + 2) = 1 ∧ 0 ≤ g (28 * x + 4)) ∧ (r_cl g x (g (28 * x + 3)) ∨ r_rw g x (g (28 * x + 3)) ∨ r_fd g x (g (28 * x + 3)))
def r_pt (g : Int → Int) (b x : Int) : Prop := r_cl g b x ∨ r_rw g b x ∨ r_fd g b x ∨ r_bx g b x
/-- the store and the sky -/
def r_Z (g : Int → Int) : Prop := 0 ≤ g 1199 ∧ g 1199 ≤ 30 ∧ (∀ h, 0 ≤ h → h < 12 → 0 ≤ g (1174 + 2 * h) ∧ g (1174 + 2 * h) ≤ 20 ∧ 0 ≤ g (1174 + 2 * h + 1) ∧ g (1174 + 2 * h + 1) ≤ 99) ∧ 0 ≤ g 1200 ∧ g 1200 ≤ 120
def r_W (g : Int → Int) : Prop := 0 ≤ g 1198 ∧ g 1198 ≤ 40 ∧ (∀ x, 0 ≤ x → x < g 1198 → r_pt g (g 1198) x) ∧ r_Z g
section RWF
variable {g g' : Int → Int} {b c x : Int}
theorem r_lies_eq (h : ∀ j, 20 ≤ j → j ≤ 24 → g' (28 * x + j) = g (28 * x + j)) (hl : r_lies g x) : r_lies g' x := by
  unfold r_lies at hl ⊢
  rw [h 20 (by decide) (by decide), h 21 (by decide) (by decide), h 22 (by decide) (by decide), h 23 (by decide) (by decide), h 24 (by decide) (by decide)]
  exact hl
/-- a CELL, told by what counts of it -/
theorem r_cl_eq (h0 : g' (28 * x) = g (28 * x)) (h2 : g' (28 * x + 2) = g (28 * x + 2)) (h : r_lies g x → r_lies g' x) (hl : r_cl g b x) : r_cl g' b x := by
  obtain ⟨a1, a2, a3, a4, a5, a6⟩ := hl
  exact ⟨a1, a2, by rw [h0]; exact a3, by rw [h2]; exact a4, by rw [h2]; exact a5, h a6⟩
theorem r_cl_up (hl : r_cl g b x) (h : b ≤ c) : r_cl g c x := by
  obtain ⟨a1, a2, a3⟩ := hl
  exact ⟨a1, by omega, a3⟩
theorem r_pt_up (hl : r_pt g b x) (h : b ≤ c) : r_pt g c x := by
  rcases hl with hl | hl | hl | hl
  · exact Or.inl (r_cl_up hl h)
  · obtain ⟨a1, a2, a3⟩ := hl; exact Or.inr (Or.inl ⟨a1, by omega, a3⟩)
  · obtain ⟨a1, a2, a3⟩ := hl; exact Or.inr (Or.inr (Or.inl ⟨a1, by omega, a3⟩))
  · obtain ⟨a1, a2, a3⟩ := hl; exact Or.inr (Or.inr (Or.inr ⟨a1, by omega, a3⟩))
/-- what counts of x is as it was, CELLS ahead of it too -/
theorem r_rw_eq (h : ∀ j, 0 ≤ j → j < 28 → j ≠ 1 → g' (28 * x + j) = g (28 * x + j)) (hc : ∀ y, r_cl g x y → r_cl g' x y) (hl : r_rw g b x) : r_rw g' b x := by
  obtain ⟨a1, a2, a3, a4, a5, a6, a7, a8⟩ := hl
  have h0 := h 0 (by decide) (by decide) (by decide)
  rw [Int.add_zero] at h0
  refine ⟨a1, a2, by rw [h0]; exact a3, by rw [h 2 (by decide) (by decide) (by decide)]; exact a4, by rw [h 2 (by decide) (by decide) (by decide)]; exact a5, by rw [h 19 (by decide) (by decide) (by decide)]; exact a6, by rw [h 19 (by decide) (by decide) (by decide)]; exact a7, fun k k0 k1 => ?_⟩
  rw [h 2 (by decide) (by decide) (by decide)] at k1
  have hk := h (3 + k) (by omega) (by omega) (by omega)
  rw [show 28 * x + (3 + k) = 28 * x + 3 + k by omega] at hk
  rw [hk]
  exact hc _ (a8 k k0 k1)
theorem r_fd_eq (h : ∀ j, 0 ≤ j → j < 28 → j ≠ 1 → g' (28 * x + j) = g (28 * x + j)) (hc : ∀ y, r_cl g x y → r_cl g' x y) (hr : ∀ y, r_rw g x y → r_rw g' x y) (hl : r_fd g b x) : r_fd g' b x := by
  obtain ⟨a1, a2, a3, a4, a5, a8⟩ := hl
  have h0 := h 0 (by decide) (by decide) (by decide)
  rw [Int.add_zero] at h0
  refine ⟨a1, a2, by rw [h0]; exact a3, by rw [h 2 (by decide) (by decide) (by decide)]; exact a4, by rw [h 2 (by decide) (by decide) (by decide)]; exact a5, fun k k0 k1 => ?_⟩
  rw [h 2 (by decide) (by decide) (by decide)] at k1
  have hk := h (3 + k) (by omega) (by omega) (by omega)
  rw [show 28 * x + (3 + k) = 28 * x + 3 + k by omega] at hk
  rw [hk]
  exact (a8 k k0 k1).imp (hc _) (hr _)
theorem r_bx_eq (h0 : g' (28 * x) = g (28 * x)) (h2 : g' (28 * x + 2) = g (28 * x + 2)) (h3 : g' (28 * x + 3) = g (28 * x + 3)) (h4 : 0 ≤ g (28 * x + 4) → 0 ≤ g' (28 * x + 4)) (hc : ∀ y, r_cl g x y → r_cl g' x y) (hr : ∀ y, r_rw g x y → r_rw g' x y) (hf : ∀ y, r_fd g x y → r_fd g' x y) (hl : r_bx g b x) : r_bx g' b x := by
  obtain ⟨a1, a2, a3, a4, a5⟩ := hl
  refine ⟨a1, a2, by rw [h0]; exact a3, ⟨by rw [h2]; exact a4.1, h4 a4.2⟩, ?_⟩
  rw [h3]
  exact a5.imp (hc _) (Or.imp (hr _) (hf _))
/-- x alone has changed, and is a CELL or a BOX as ahead -/
theorem r_W_one {p : Int} (hg : r_W g) (h : ∀ i, i < 28 * p ∨ 28 * p + 28 ≤ i → g' i = g i) (h0 : g' (28 * p) = g (28 * p)) (h2 : g' (28 * p + 2) = g (28 * p + 2)) (hp : 0 ≤ p ∧ p < 40) (hk : g (28 * p) = 0 ∧ (r_lies g p → r_lies g' p) ∨ g (28 * p) = 3 ∧ g' (28 * p + 3) = g (28 * p + 3) ∧ (0 ≤ g (28 * p + 4) → 0 ≤ g' (28 * p + 4))) : r_W g' := by
  obtain ⟨w1, w2, w3, w4⟩ := hg
  have q1 : ∀ i, 1120 ≤ i → g' i = g i := fun i hi => h i (by omega)
  have oth : ∀ x, x ≠ p → ∀ j, 0 ≤ j → j < 28 → g' (28 * x + j) = g (28 * x + j) := fun x hx j h1 h2 => h _ (by omega)
  have oth0 : ∀ x, x ≠ p → g' (28 * x) = g (28 * x) := fun x hx => h _ (by omega)
  have c1 : ∀ b y, r_cl g b y → r_cl g' b y := by
    intro b y hy
    by_cases hx : y = p
    · subst hx
      rcases hk with ⟨-, hk⟩ | ⟨hk, -⟩
      · exact r_cl_eq h0 h2 hk hy
      · have := hy.2.2.1; omega
    · exact r_cl_eq (oth0 y hx) (oth y hx 2 (by decide) (by decide)) (r_lies_eq (fun j j0 j1 => oth y hx j (by omega) (by omega))) hy
  have kp : g (28 * p) = 0 ∨ g (28 * p) = 3 := hk.imp (·.1) (·.1)
  have c2 : ∀ b y, r_rw g b y → r_rw g' b y := by
    intro b y hy
    have hx : y ≠ p := by
      intro e; subst e
      have := hy.2.2.1; omega
    exact r_rw_eq (fun j j0 j1 _ => oth y hx j j0 j1) (c1 y) hy
  have c3 : ∀ b y, r_fd g b y → r_fd g' b y := by
    intro b y hy
    have hx : y ≠ p := by
      intro e; subst e
      have := hy.2.2.1; omega
    exact r_fd_eq (fun j j0 j1 _ => oth y hx j j0 j1) (c1 y) (c2 y) hy
  have c4 : ∀ b y, r_bx g b y → r_bx g' b y := by
    intro b y hy
    by_cases hx : y = p
    · subst hx
      rcases hk with ⟨hk, -⟩ | ⟨-, hk⟩
      · have := hy.2.2.1; omega
      · exact r_bx_eq h0 h2 hk.1 hk.2 (c1 y) (c2 y) (c3 y) hy
    · exact r_bx_eq (oth0 y hx) (oth y hx 2 (by decide) (by decide)) (oth y hx 3 (by decide) (by decide)) (fun h4 => by rw [oth y hx 4 (by decide) (by decide)]; exact h4) (c1 y) (c2 y) (c3 y) hy
  refine ⟨by rw [q1 1198 (by decide)]; exact w1, by rw [q1 1198 (by decide)]; exact w2, ?_, ?_⟩
  · rw [q1 1198 (by decide)]
    intro x x0 x1
    exact (w3 x x0 x1).imp (c1 _ _) (Or.imp (c2 _ _) (Or.imp (c3 _ _) (c4 _ _)))
  · obtain ⟨z1, z2, z3, z4, z5⟩ := w4
    refine ⟨by rw [q1 1199 (by decide)]; exact z1, by rw [q1 1199 (by decide)]; exact z2, fun k k0 k1 => ?_, by rw [q1 1200 (by decide)]; exact z4, by rw [q1 1200 (by decide)]; exact z5⟩
    rw [q1 _ (by omega), q1 _ (by omega)]
    exact z3 k k0 k1
/-- nothing of the PARTS has changed -/
theorem r_W_far (hg : r_W g) (h : ∀ i, i < 1120 ∨ i = 1198 → g' i = g i) (hz : r_Z g') : r_W g' := by
  obtain ⟨w1, w2, w3, w4⟩ := hg
  have oth : ∀ x, x < 40 → ∀ j, 0 ≤ j → j < 28 → g' (28 * x + j) = g (28 * x + j) := fun x hx j h1 h2 => h _ (by omega)
  have oth0 : ∀ x, x < 40 → g' (28 * x) = g (28 * x) := fun x hx => h _ (by omega)
  have c1 : ∀ b, b ≤ 40 → ∀ y, r_cl g b y → r_cl g' b y := by
    intro b hb y hy
    have hx : y < 40 := by have := hy.2.1; omega
    exact r_cl_eq (oth0 y hx) (oth y hx 2 (by decide) (by decide)) (r_lies_eq (fun j j0 j1 => oth y hx j (by omega) (by omega))) hy
  have c2 : ∀ b, b ≤ 40 → ∀ y, r_rw g b y → r_rw g' b y := by
    intro b hb y hy
    have hx : y < 40 := by have := hy.2.1; omega
    exact r_rw_eq (fun j j0 j1 _ => oth y hx j j0 j1) (c1 y (by omega)) hy
  have c3 : ∀ b, b ≤ 40 → ∀ y, r_fd g b y → r_fd g' b y := by
    intro b hb y hy
    have hx : y < 40 := by have := hy.2.1; omega
    exact r_fd_eq (fun j j0 j1 _ => oth y hx j j0 j1) (c1 y (by omega)) (c2 y (by omega)) hy
  have c4 : ∀ b, b ≤ 40 → ∀ y, r_bx g b y → r_bx g' b y := by
    intro b hb y hy
    have hx : y < 40 := by have := hy.2.1; omega
    exact r_bx_eq (oth0 y hx) (oth y hx 2 (by decide) (by decide)) (oth y hx 3 (by decide) (by decide)) (fun h4 => by rw [oth y hx 4 (by decide) (by decide)]; exact h4) (c1 y (by omega)) (c2 y (by omega)) (c3 y (by omega)) hy
  refine ⟨by rw [h 1198 (Or.inr rfl)]; exact w1, by rw [h 1198 (Or.inr rfl)]; exact w2, ?_, hz⟩
  rw [h 1198 (Or.inr rfl)]
  intro x x0 x1
  exact (w3 x x0 x1).imp (c1 _ w2 _) (Or.imp (c2 _ w2 _) (Or.imp (c3 _ w2 _) (c4 _ w2 _)))
end RWF
