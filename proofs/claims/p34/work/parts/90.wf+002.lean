section RWF
variable {g g' : Int → Int} {b c x : Int}
theorem r_lies_eq (h : ∀ j, 20 ≤ j → j ≤ 24 → g' (28 * x + j) = g (28 * x + j)) (hl : r_lies g x) : r_lies g' x := by
  unfold r_lies at hl ⊢
  rw [h 20 (by decide) (by decide), h 21 (by decide) (by decide), h 22 (by decide) (by decide), h 23 (by decide) (by decide), h 24 (by decide) (by decide)]
  exact hl
/-- a CELL, told by what counts of it -/
theorem r_cl_eq (h0 : g' (28 * x) = g (28 * x)) (h2 : g' (28 * x + 2) = g (28 * x + 2)) (h : r_lies g x → r_lies g' x) (hl : r_cl g b x) : r_cl g' b x := by
  obtain ⟨a1, a2, a3, a4, a5, a6⟩ := hl
  exact ⟨a1, a2, by rw [h0]; exact a3, by rw [h2]; exact a4, by rw [h2]; exact a5, h a6⟩
theorem r_cl_up (hl : r_cl g b x) (h : b ≤ c) : r_cl g c x := by
  obtain ⟨a1, a2, a3⟩ := hl
  exact ⟨a1, by omega, a3⟩
theorem r_pt_up (hl : r_pt g b x) (h : b ≤ c) : r_pt g c x := by
  rcases hl with hl | hl | hl | hl
  · exact Or.inl (r_cl_up hl h)
  · obtain ⟨a1, a2, a3⟩ := hl; exact Or.inr (Or.inl ⟨a1, by omega, a3⟩)
  · obtain ⟨a1, a2, a3⟩ := hl; exact Or.inr (Or.inr (Or.inl ⟨a1, by omega, a3⟩))
  · obtain ⟨a1, a2, a3⟩ := hl; exact Or.inr (Or.inr (Or.inr ⟨a1, by omega, a3⟩))
/-- what counts of x is as it was, CELLS ahead of it too -/
theorem r_rw_eq (h : ∀ j, 0 ≤ j → j < 28 → j ≠ 1 → g' (28 * x + j) = g (28 * x + j)) (hc : ∀ y, r_cl g x y → r_cl g' x y) (hl : r_rw g b x) : r_rw g' b x := by
  obtain ⟨a1, a2, a3, a4, a5, a6, a7, a8⟩ := hl
  have h0 := h 0 (by decide) (by decide) (by decide)
  rw [Int.add_zero] at h0
  refine ⟨a1, a2, by rw [h0]; exact a3, by rw [h 2 (by decide) (by decide) (by decide)]; exact a4, by rw [h 2 (by decide) (by decide) (by decide)]; exact a5, by rw [h 19 (by decide) (by decide) (by decide)]; exact a6, by rw [h 19 (by decide) (by decide) (by decide)]; exact a7, fun k k0 k1 => ?_⟩
  rw [h 2 (by decide) (by decide) (by decide)] at k1
  have hk := h (3 + k) (by omega) (by omega) (by omega)
  rw [show 28 * x + (3 + k) = 28 * x + 3 + k by omega] at hk
  rw [hk]
  exact hc _ (a8 k k0 k1)
theorem r_fd_eq (h : ∀ j, 0 ≤ j → j < 28 → j ≠ 1 → g' (28 * x + j) = g (28 * x + j)) (hc : ∀ y, r_cl g x y → r_cl g' x y) (hr : ∀ y, r_rw g x y → r_rw g' x y) (hl : r_fd g b x) : r_fd g' b x := by
  obtain ⟨a1, a2, a3, a4, a5, a8⟩ := hl
  have h0 := h 0 (by decide) (by decide) (by decide)
  rw [Int.add_zero] at h0
  refine ⟨a1, a2, by rw [h0]; exact a3, by rw [h 2 (by decide) (by decide) (by decide)]; exact a4, by rw [h 2 (by decide) (by decide) (by decide)]; exact a5, fun k k0 k1 => ?_⟩
  rw [h 2 (by decide) (by decide) (by decide)] at k1
  have hk := h (3 + k) (by omega) (by omega) (by omega)
  rw [show 28 * x + (3 + k) = 28 * x + 3 + k by omega] at hk
  rw [hk]
  exact (a8 k k0 k1).imp (hc _) (hr _)
theorem r_bx_eq (h0 : g' (28 * x) = g (28 * x)) (h2 : g' (28 * x + 2) = g (28 * x + 2)) (h3 : g' (28 * x + 3) = g (28 * x + 3)) (h4 : 0 ≤ g (28 * x + 4) → 0 ≤ g' (28 * x + 4)) (hc : ∀ y, r_cl g x y → r_cl g' x y) (hr : ∀ y, r_rw g x y → r_rw g' x y) (hf : ∀ y, r_fd g x y → r_fd g' x y) (hl : r_bx g b x) : r_bx g' b x := by
  obtain ⟨a1, a2, a3, a4, a5⟩ := hl
  refine ⟨a1, a2, by rw [h0]; exact a3, ⟨by rw [h2]; exact a4.1, h4 a4.2⟩, ?_⟩
  rw [h3]
  exact a5.imp (hc _) (Or.imp (hr _) (hf _))
/-- x alone has changed, and is a CELL or a BOX as ahead -/
theorem r_W_one {p : Int} (hg : r_W g) (h : ∀ i, i < 28 * p ∨ 28 * p + 28 ≤ i → g' i = g i) (h0 : g' (28 * p) = g (28 * p)) (h2 : g' (28 * p + 2) = g (28 * p + 2)) (hp : 0 ≤ p ∧ p < 40) (hk : g (28 * p) = 0 ∧ (r_lies g p → r_lies g' p) ∨ g (28 * p) = 3 ∧ g' (28 * p + 3) = g (28 * p + 3) ∧ (0 ≤ g (28 * p + 4) → 0 ≤ g' (28 * p + 4))) : r_W g' := by
  obtain ⟨w1, w2, w3, w4⟩ := hg
  have q1 : ∀ i, 1120 ≤ i → g' i = g i := fun i hi => h i (by omega)
  have oth : ∀ x, x ≠ p → ∀ j, 0 ≤ j → j < 28 → g' (28 * x + j) = g (28 * x + j) := fun x hx j h1 h2 => h _ (by omega)
  have oth0 : ∀ x, x ≠ p → g' (28 * x) = g (28 * x) := fun x hx => h _ (by omega)
  have c1 : ∀ b y, r_cl g b y → r_cl g' b y := by
    intro b y hy
    by_cases hx : y = p
    · subst hx
      rcases hk with ⟨-, hk⟩ | ⟨hk, -⟩
      · exact r_cl_eq h0 h2 hk hy
      · have := hy.2.2.1; omega
    · exact r_cl_eq (oth0 y hx) (oth y hx 2 (by decide) (by decide)) (r_lies_eq (fun j j0 j1 => oth y hx j (by omega) (by omega))) hy
  have kp : g (28 * p) = 0 ∨ g (28 * p) = 3 := hk.imp (·.1) (·.1)
  have c2 : ∀ b y, r_rw g b y → r_rw g' b y := by
    intro b y hy
    have hx : y ≠ p := by
      intro e; subst e
      have := hy.2.2.1; omega
    exact r_rw_eq (fun j j0 j1 _ => oth y hx j j0 j1) (c1 y) hy
  have c3 : ∀ b y, r_fd g b y → r_fd g' b y := by
    intro b y hy
    have hx : y ≠ p := by
      intro e; subst e
      have := hy.2.2.1; omega
    exact r_fd_eq (fun j j0 j1 _ => oth y hx j j0 j1) (c1 y) (c2 y) hy
  have c4 : ∀ b y, r_bx g b y → r_bx g' b y := by
    intro b y hy
    by_cases hx : y = p
    · subst hx
      rcases hk with ⟨hk, -⟩ | ⟨-, hk⟩
      · have := hy.2.2.1; omega
      · exact r_bx_eq h0 h2 hk.1 hk.2 (c1 y) (c2 y) (c3 y) hy
    · exact r_bx_eq (oth0 y hx) (oth y hx 2 (by decide) (by decide)) (oth y hx 3 (by decide) (by decide)) (fun h4 => by rw [oth y hx 4 (by decide) (by decide)]; exact h4) (c1 y) (c2 y) (c3 y) hy
  refine ⟨by rw [q1 1198 (by decide)]; exact w1, by rw [q1 1198 (by decide)]; exact w2, ?_, ?_⟩
  · rw [q1 1198 (by decide)]
    intro x x0 x1
    exact (w3 x x0 x1).imp (c1 _ _) (Or.imp (c2 _ _) (Or.imp (c3 _ _) (c4 _ _)))
  · obtain ⟨z1, z2, z3, z4, z5⟩ := w4
    refine ⟨by rw [q1 1199 (by decide)]; exact z1, by rw [q1 1199 (by decide)]; exact z2, fun k k0 k1 => ?_, by rw [q1 1200 (by decide)]; exact z4, by rw [q1 1200 (by decide)]; exact z5⟩
    rw [q1 _ (by omega), q1 _ (by omega)]
    exact z3 k k0 k1
/-- nothing of the PARTS has changed -/
theorem r_W_far (hg : r_W g) (h : ∀ i, i < 1120 ∨ i = 1198 → g' i = g i) (hz : r_Z g') : r_W g' := by
  obtain ⟨w1, w2, w3, w4⟩ := hg
  have oth : ∀ x, x < 40 → ∀ j, 0 ≤ j → j < 28 → g' (28 * x + j) = g (28 * x + j) := fun x hx j h1 h2 => h _ (by omega)
  have oth0 : ∀ x, x < 40 → g' (28 * x) = g (28 * x) := fun x hx => h _ (by omega)
  have c1 : ∀ b, b ≤ 40 → ∀ y, r_cl g b y → r_cl g' b y := by
    intro b hb y hy
    have hx : y < 40 := by have := hy.2.1; omega
    exact r_cl_eq (oth0 y hx) (oth y hx 2 (by decide) (by decide)) (r_lies_eq (fun j j0 j1 => oth y hx j (by omega) (by omega))) hy
  have c2 : ∀ b, b ≤ 40 → ∀ y, r_rw g b y → r_rw g' b y := by
    intro b hb y hy
    have hx : y < 40 := by have := hy.2.1; omega
    exact r_rw_eq (fun j j0 j1 _ => oth y hx j j0 j1) (c1 y (by omega)) hy
  have c3 : ∀ b, b ≤ 40 → ∀ y, r_fd g b y → r_fd g' b y := by
    intro b hb y hy
    have hx : y < 40 := by have := hy.2.1; omega
    exact r_fd_eq (fun j j0 j1 _ => oth y hx j j0 j1) (c1 y (by omega)) (c2 y (by omega)) hy
  have c4 : ∀ b, b ≤ 40 → ∀ y, r_bx g b y → r_bx g' b y := by
    intro b hb y hy
    have hx : y < 40 := by have := hy.2.1; omega
    exact r_bx_eq (oth0 y hx) (oth y hx 2 (by decide) (by decide)) (oth y hx 3 (by decide) (by decide)) (fun h4 => by rw [oth y hx 4 (by decide) (by decide)]; exact h4) (c1 y (by omega)) (c2 y (by omega)) (c3 y (by omega)) hy
  refine ⟨by rw [h 1198 (Or.inr rfl)]; exact w1, by rw [h 1198 (Or.inr rfl)]; exact w2, ?_, hz⟩
  rw [h 1198 (Or.inr rfl)]
  intro x x0 x1
  exact (w3 x x0 x1).imp (c1 _ w2 _) (Or.imp (c2 _ w2 _) (Or.imp (c3 _ w2 _) (c4 _ w2 _)))
end RWF
