section
/-! a TEXT's shape, byte by byte: what is expected (2), which statement (3), behind a push (4), under a diode (5), groups (6), statements (7), numbers (8) -/
def w_ok (s : Nat → Int) (c : Int) : Prop :=
  if s 2 = 0 then c = 99 ∨ c = 114 ∨ c = 102 ∨ c = 98
  else if s 2 = 1 then (48 ≤ c ∧ c ≤ 57) ∨ (c = 91 ∧ s 3 = 114 ∧ s 5 = 0)
  else (s 2 = 2 ∧ 48 ≤ c ∧ c ≤ 57) ∨ (c = 47 ∧ s 3 = 99 ∧ s 4 = 0) ∨ (c = 93 ∧ s 5 ≠ 0) ∨ (c = 32 ∧ s 3 ≠ 98 ∧ ¬ (s 3 = 99 ∧ s 4 = 0)) ∨ (c = 59 ∧ s 5 = 0 ∧ ¬ (s 3 = 99 ∧ s 4 = 0))
def w_nx (s : Nat → Int) (c : Int) : Nat → Int :=
  if s 2 = 0 then fun j => if j = 2 then 1 else if j = 3 then c else if j = 4 then 0 else if j = 5 then 0 else if j = 6 then 1 else s j
  else if s 2 = 1 then (if 48 ≤ c ∧ c ≤ 57 then fun j => if j = 8 then s 8 + 1 else if j = 2 then (if c = 48 then 3 else 2) else s j else fun j => if j = 5 then 1 else s j)
  else if s 2 = 2 ∧ 48 ≤ c ∧ c ≤ 57 then fun j => if j = 2 then 3 else s j
  else if c = 47 then fun j => if j = 4 then 1 else if j = 2 then 1 else s j
  else if c = 93 then fun j => if j = 5 then 0 else if j = 2 then 3 else s j
  else if c = 32 then fun j => if j = 6 then (if s 5 = 0 then s 6 + 1 else s 6) else if j = 4 then 0 else if j = 2 then 1 else s j
  else fun j => if j = 7 then s 7 + 1 else if j = 2 then 0 else s j
section WTX
variable {s : Nat → Int} {c : Int}
theorem w_nx2 : w_nx s c 2 = if s 2 = 0 then 1 else if s 2 = 1 then (if 48 ≤ c ∧ c ≤ 57 then (if c = 48 then 3 else 2) else 1) else if s 2 = 2 ∧ 48 ≤ c ∧ c ≤ 57 then 3 else if c = 47 then 1 else if c = 93 then 3 else if c = 32 then 1 else 0 := by
  unfold w_nx
  by_cases h0 : s 2 = 0
  · rw [if_pos h0, if_pos h0]; rfl
  rw [if_neg h0, if_neg h0]
  by_cases h1 : s 2 = 1
  · rw [if_pos h1, if_pos h1]
    by_cases h2 : 48 ≤ c ∧ c ≤ 57
    · rw [if_pos h2, if_pos h2]; rfl
    · rw [if_neg h2, if_neg h2]; exact h1
  rw [if_neg h1, if_neg h1]
  by_cases h2 : s 2 = 2 ∧ 48 ≤ c ∧ c ≤ 57
  · rw [if_pos h2, if_pos h2]; rfl
  rw [if_neg h2, if_neg h2]
  by_cases h3 : c = 47
  · rw [if_pos h3, if_pos h3]; rfl
  rw [if_neg h3, if_neg h3]
  by_cases h4 : c = 93
  · rw [if_pos h4, if_pos h4]; rfl
  rw [if_neg h4, if_neg h4]
  by_cases h5 : c = 32
  · rw [if_pos h5, if_pos h5]; rfl
  rw [if_neg h5, if_neg h5]; rfl
theorem w_nx3 : w_nx s c 3 = if s 2 = 0 then c else s 3 := by
  unfold w_nx
  split
  · rfl
  · split
    · split <;> rfl
    · split
      · rfl
      · split
        · rfl
        · split
          · rfl
          · split <;> rfl
theorem w_nx4 : w_nx s c 4 = if s 2 = 0 then 0 else if s 2 = 1 then s 4 else if s 2 = 2 ∧ 48 ≤ c ∧ c ≤ 57 then s 4 else if c = 47 then 1 else if c = 32 then 0 else s 4 := by
  unfold w_nx
  by_cases h0 : s 2 = 0
  · rw [if_pos h0, if_pos h0]; rfl
  rw [if_neg h0, if_neg h0]
  by_cases h1 : s 2 = 1
  · rw [if_pos h1, if_pos h1]
    split <;> rfl
  rw [if_neg h1, if_neg h1]
  by_cases h2 : s 2 = 2 ∧ 48 ≤ c ∧ c ≤ 57
  · rw [if_pos h2, if_pos h2]; rfl
  rw [if_neg h2, if_neg h2]
  by_cases h3 : c = 47
  · rw [if_pos h3, if_pos h3]; rfl
  rw [if_neg h3, if_neg h3]
  by_cases h4 : c = 93
  · rw [if_pos h4]; exact (if_neg (by omega)).symm
  rw [if_neg h4]
  by_cases h5 : c = 32
  · rw [if_pos h5, if_pos h5]; rfl
  rw [if_neg h5, if_neg h5]; rfl
theorem w_nx5 : w_nx s c 5 = if s 2 = 0 then 0 else if s 2 = 1 then (if 48 ≤ c ∧ c ≤ 57 then s 5 else 1) else if s 2 = 2 ∧ 48 ≤ c ∧ c ≤ 57 then s 5 else if c = 93 then 0 else s 5 := by
  unfold w_nx
  by_cases h0 : s 2 = 0
  · rw [if_pos h0, if_pos h0]; rfl
  rw [if_neg h0, if_neg h0]
  by_cases h1 : s 2 = 1
  · rw [if_pos h1, if_pos h1]
    by_cases h2 : 48 ≤ c ∧ c ≤ 57
    · rw [if_pos h2, if_pos h2]; rfl
    · rw [if_neg h2, if_neg h2]; rfl
  rw [if_neg h1, if_neg h1]
  by_cases h2 : s 2 = 2 ∧ 48 ≤ c ∧ c ≤ 57
  · rw [if_pos h2, if_pos h2]; rfl
  rw [if_neg h2, if_neg h2]
  by_cases h3 : c = 47
  · rw [if_pos h3]; exact (if_neg (by omega)).symm
  rw [if_neg h3]
  by_cases h4 : c = 93
  · rw [if_pos h4, if_pos h4]; rfl
  rw [if_neg h4, if_neg h4]
  split <;> rfl
theorem w_nx6 : w_nx s c 6 = if s 2 = 0 then 1 else if s 2 = 1 then s 6 else if s 2 = 2 ∧ 48 ≤ c ∧ c ≤ 57 then s 6 else if c = 32 ∧ s 5 = 0 then s 6 + 1 else s 6 := by
  unfold w_nx
  by_cases h0 : s 2 = 0
  · rw [if_pos h0, if_pos h0]; rfl
  rw [if_neg h0, if_neg h0]
  by_cases h1 : s 2 = 1
  · rw [if_pos h1, if_pos h1]
    split <;> rfl
  rw [if_neg h1, if_neg h1]
  by_cases h2 : s 2 = 2 ∧ 48 ≤ c ∧ c ≤ 57
  · rw [if_pos h2, if_pos h2]; rfl
  rw [if_neg h2, if_neg h2]
  by_cases h3 : c = 47
  · rw [if_pos h3]; exact (if_neg (by omega)).symm
  rw [if_neg h3]
  by_cases h4 : c = 93
  · rw [if_pos h4]; exact (if_neg (by omega)).symm
  rw [if_neg h4]
  by_cases h5 : c = 32
  · rw [if_pos h5]
    by_cases h6 : s 5 = 0
    · refine Eq.trans ?_ (if_pos (c := c = 32 ∧ s 5 = 0) ⟨h5, h6⟩).symm
      exact if_pos (c := s 5 = 0) h6
    · refine Eq.trans ?_ (if_neg (c := c = 32 ∧ s 5 = 0) (fun e => h6 e.2)).symm
      exact if_neg (c := s 5 = 0) h6
  rw [if_neg h5]
  exact (if_neg (c := c = 32 ∧ s 5 = 0) (fun e => h5 e.1)).symm
theorem w_nx7 (h : w_ok s c) : w_nx s c 7 = if s 2 ≠ 0 ∧ s 2 ≠ 1 ∧ c = 59 then s 7 + 1 else s 7 := by
  unfold w_nx
  by_cases h0 : s 2 = 0
  · rw [if_pos h0]; exact (if_neg (by omega)).symm
  rw [if_neg h0]
  by_cases h1 : s 2 = 1
  · rw [if_pos h1]
    refine Eq.trans ?_ (if_neg (by omega)).symm
    split <;> rfl
  rw [if_neg h1]
  by_cases h2 : s 2 = 2 ∧ 48 ≤ c ∧ c ≤ 57
  · rw [if_pos h2]; exact (if_neg (by omega)).symm
  rw [if_neg h2]
  by_cases h3 : c = 47
  · rw [if_pos h3]; exact (if_neg (by omega)).symm
  rw [if_neg h3]
  by_cases h4 : c = 93
  · rw [if_pos h4]; exact (if_neg (by omega)).symm
  rw [if_neg h4]
  by_cases h5 : c = 32
  · rw [if_pos h5]; exact (if_neg (by omega)).symm
  rw [if_neg h5]
  unfold w_ok at h
  rw [if_neg h0, if_neg h1] at h
  exact (if_pos (c := s 2 ≠ 0 ∧ s 2 ≠ 1 ∧ c = 59) ⟨h0, h1, by omega⟩).symm
theorem w_nx8 : w_nx s c 8 = if s 2 = 1 ∧ 48 ≤ c ∧ c ≤ 57 then s 8 + 1 else s 8 := by
  unfold w_nx
  by_cases h0 : s 2 = 0
  · rw [if_pos h0]; exact (if_neg (by omega)).symm
  rw [if_neg h0]
  by_cases h1 : s 2 = 1
  · rw [if_pos h1]
    by_cases h2 : 48 ≤ c ∧ c ≤ 57
    · rw [if_pos h2]; exact (if_pos (c := s 2 = 1 ∧ 48 ≤ c ∧ c ≤ 57) ⟨h1, h2⟩).symm
    · rw [if_neg h2]; exact (if_neg (c := s 2 = 1 ∧ 48 ≤ c ∧ c ≤ 57) (fun e => h2 e.2)).symm
  rw [if_neg h1]
  refine Eq.trans ?_ (if_neg (c := s 2 = 1 ∧ 48 ≤ c ∧ c ≤ 57) (fun e => h1 e.1)).symm
  split
  · rfl
  · split
    · rfl
    · split
      · rfl
      · split <;> rfl
end WTX
def w_T (b : Nat → Int) : Nat → Nat → Int
  | 0 => fun _ => 0
  | k + 1 => w_nx (w_T b k) (b k)
def w_A (b : Nat → Int) (k : Nat) : Prop := ∀ j, j < k → w_ok (w_T b j) (b j)
/-- the first place where it can't go on -/
def w_F (b : Nat → Int) (n k : Nat) : Prop := w_A b k ∧ k ≤ n ∧ (k < n → ¬ w_ok (w_T b k) (b k)) ∧ (k = n → ¬ (w_T b n 2 = 0 ∧ 0 < w_T b n 7))
def w_N (b : Nat → Int) (k : Nat) : Prop := w_T b k 2 = 1 ∧ 48 ≤ b k ∧ b k ≤ 57
/-- the number that begins at k, in a text of n bytes -/
def w_v (b : Nat → Int) (n k : Nat) : Int := if b k ≠ 48 ∧ k + 1 < n ∧ 48 ≤ b (k + 1) ∧ b (k + 1) ≤ 57 then 10 * (b k - 48) + b (k + 1) - 48 else b k - 48
section WTT
variable {b : Nat → Int} {n k j : Nat}
theorem w_Tn (b : Nat → Int) (k : Nat) : w_T b (k + 1) = w_nx (w_T b k) (b k) := rfl
theorem w_A1 (h : w_A b (k + 1)) : w_A b k ∧ w_ok (w_T b k) (b k) := ⟨fun j hj => h j (by omega), h k (by omega)⟩
theorem w_As (h : w_A b k) (q : w_ok (w_T b k) (b k)) : w_A b (k + 1) := by
  intro j hj
  by_cases e : j = k
  · rw [e]; exact q
  · exact h j (by omega)
theorem w_Al (h : w_A b k) (hj : j ≤ k) : w_A b j := fun i hi => h i (by omega)
theorem w_F_u (h : w_F b n k) (h' : w_F b n j) : k = j := by
  obtain ⟨a1, a2, a3, a4⟩ := h
  obtain ⟨b1, b2, b3, b4⟩ := h'
  rcases Nat.lt_trichotomy k j with h | h | h
  · exact absurd (b1 k h) (a3 (by omega))
  · exact h
  · exact absurd (a1 j h) (b3 (by omega))
theorem w_F_n (h : w_F b n k) (hA : w_A b n) (h1 : w_T b n 2 = 0 ∧ 0 < w_T b n 7) : False := by
  obtain ⟨a1, a2, a3, a4⟩ := h
  by_cases e : k = n
  · exact a4 e h1
  · exact a3 (by omega) (hA k (by omega))
/-- what holds of every state -/
def w_I (s : Nat → Int) (k : Nat) : Prop := 0 ≤ s 2 ∧ s 2 ≤ 3 ∧ 0 ≤ s 7 ∧ s 7 ≤ k ∧ 0 ≤ s 8 ∧ s 8 ≤ k ∧ (s 5 = 0 ∨ s 5 = 1) ∧ 0 ≤ s 6 ∧ s 6 ≤ k + 1 ∧ (s 2 ≠ 0 → 1 ≤ s 6) ∧ (s 2 = 2 → 1 ≤ s 8)
theorem w_Ii (h : w_A b k) : w_I (w_T b k) k := by
  induction k with
  | zero =>
    have e : ∀ j, w_T b 0 j = 0 := fun _ => rfl
    unfold w_I
    rw [e, e, e, e, e]
    omega
  | succ k ih =>
    obtain ⟨h1, h2⟩ := w_A1 h
    have i := ih h1
    rw [w_Tn]
    generalize w_T b k = s at i h2
    generalize b k = c at h2
    have e2 := w_nx2 (s := s) (c := c)
    have e5 := w_nx5 (s := s) (c := c)
    have e6 := w_nx6 (s := s) (c := c)
    have e7 := w_nx7 h2
    have e8 := w_nx8 (s := s) (c := c)
    unfold w_I at i ⊢
    unfold w_ok at h2
    generalize w_nx s c = t at *
    by_cases h0 : s 2 = 0
    · simp only [h0, if_true] at e2 e5 e6 e7 e8 h2
      simp at e7 e8
      omega
    · by_cases g1 : s 2 = 1
      · simp only [g1] at e2 e5 e6 e7 e8 h2
        simp at e2 e5 e6 e7 e8 h2
        by_cases g2 : 48 ≤ c ∧ c ≤ 57
        · simp only [g2, and_self, if_true] at e2 e5 e8
          by_cases g3 : c = 48
          · rw [if_pos g3] at e2; omega
          · rw [if_neg g3] at e2; omega
        · rw [if_neg g2] at e2 e5 e8; omega
      · rw [if_neg h0, if_neg g1] at e2 e5 e6 h2
        rw [if_neg (fun e => g1 e.1)] at e8
        by_cases g2 : s 2 = 2 ∧ 48 ≤ c ∧ c ≤ 57
        · rw [if_pos g2] at e2 e5 e6
          rw [if_neg (by omega)] at e7
          omega
        · rw [if_neg g2] at e2 e5 e6
          by_cases g3 : c = 47
          · rw [if_pos g3] at e2
            rw [if_neg (by omega)] at e5 e6 e7
            omega
          · rw [if_neg g3] at e2
            by_cases g4 : c = 93
            · rw [if_pos g4] at e2 e5
              rw [if_neg (by omega)] at e6 e7
              omega
            · rw [if_neg g4] at e2 e5
              by_cases g5 : c = 32
              · rw [if_pos g5] at e2
                rw [if_neg (by omega)] at e7
                by_cases g6 : s 5 = 0
                · rw [if_pos ⟨g5, g6⟩] at e6; omega
                · rw [if_neg (fun e => g6 e.2)] at e6; omega
              · rw [if_neg g5] at e2
                rw [if_pos (by omega)] at e7
                rw [if_neg (fun e => g5 e.1)] at e6
                omega
/-- numbers and statements never go back -/
theorem w_m8 (hk : k ≤ j) : w_T b k 8 ≤ w_T b j 8 := by
  induction j with
  | zero => rw [show k = 0 by omega]; exact Int.le_refl _
  | succ j ih =>
    by_cases e : k = j + 1
    · rw [e]; exact Int.le_refl _
    · have i := ih (by omega)
      have e8 := w_nx8 (s := w_T b j) (c := b j)
      rw [w_Tn]
      split at e8 <;> omega
theorem w_n8 (h : w_N b k) : w_T b (k + 1) 8 = w_T b k 8 + 1 := by
  rw [w_Tn, w_nx8, if_pos ⟨h.1, h.2⟩]
theorem w_N8 (h : w_N b k) (hk : k < j) : w_T b k 8 < w_T b j 8 := by
  have := w_m8 (b := b) (k := k + 1) (j := j) (by omega)
  rw [w_n8 h] at this
  omega
theorem w_m7 (hA : w_A b j) (hk : k ≤ j) : w_T b k 7 ≤ w_T b j 7 := by
  induction j with
  | zero => rw [show k = 0 by omega]; exact Int.le_refl _
  | succ j ih =>
    by_cases e : k = j + 1
    · rw [e]; exact Int.le_refl _
    · obtain ⟨h1, h2⟩ := w_A1 hA
      have i := ih h1 (by omega)
      have e7 := w_nx7 h2
      rw [w_Tn]
      split at e7 <;> omega
theorem w_S1 (h : w_T b k 2 = 0) : w_T b (k + 1) 2 = 1 := by rw [w_Tn, w_nx2, if_pos h]
theorem w_S7 (hA : w_A b j) (hk : k < j) (hj : w_T b j 2 = 0) : w_T b k 7 < w_T b j 7 := by
  obtain ⟨j, rfl⟩ : ∃ i, j = i + 1 := ⟨j - 1, by omega⟩
  obtain ⟨h1, h2⟩ := w_A1 hA
  have i := w_m7 h1 (show k ≤ j by omega)
  have e7 := w_nx7 h2
  have e2 := w_nx2 (s := w_T b j) (c := b j)
  have b2 := w_Ii h1
  rw [w_Tn] at hj ⊢
  rw [hj] at e2
  unfold w_I at b2
  unfold w_ok at h2
  generalize w_T b j = s at *
  generalize b j = c at *
  by_cases h0 : s 2 = 0
  · rw [if_pos h0] at e2; omega
  rw [if_neg h0] at e2 h2
  by_cases g1 : s 2 = 1
  · rw [if_pos g1] at e2
    split at e2
    · split at e2 <;> omega
    · omega
  rw [if_neg g1] at e2 h2
  by_cases g2 : s 2 = 2 ∧ 48 ≤ c ∧ c ≤ 57
  · rw [if_pos g2] at e2; omega
  rw [if_neg g2] at e2
  by_cases g3 : c = 47
  · rw [if_pos g3] at e2; omega
  rw [if_neg g3] at e2
  by_cases g4 : c = 93
  · rw [if_pos g4] at e2; omega
  rw [if_neg g4] at e2
  by_cases g5 : c = 32
  · rw [if_pos g5] at e2; omega
  rw [if_pos (by omega)] at e7
  omega
/-- a second digit may come: behind a number that began just now -/
theorem w_more (hA : w_A b k) (h : w_T b k 2 = 2) : ∃ j, k = j + 1 ∧ w_N b j ∧ b j ≠ 48 := by
  cases k with
  | zero => exact absurd (show (0 : Int) = 2 from h) (by decide)
  | succ j =>
    refine ⟨j, rfl, ?_⟩
    rw [w_Tn, w_nx2] at h
    unfold w_N
    by_cases h0 : w_T b j 2 = 0
    · rw [if_pos h0] at h; omega
    rw [if_neg h0] at h
    by_cases g1 : w_T b j 2 = 1
    · rw [if_pos g1] at h
      by_cases g2 : 48 ≤ b j ∧ b j ≤ 57
      · rw [if_pos g2] at h
        by_cases g3 : b j = 48
        · rw [if_pos g3] at h; omega
        · exact ⟨⟨g1, g2⟩, g3⟩
      · rw [if_neg g2] at h; omega
    rw [if_neg g1] at h
    by_cases g2 : w_T b j 2 = 2 ∧ 48 ≤ b j ∧ b j ≤ 57
    · rw [if_pos g2] at h; omega
    rw [if_neg g2] at h
    by_cases g3 : b j = 47
    · rw [if_pos g3] at h; omega
    rw [if_neg g3] at h
    by_cases g4 : b j = 93
    · rw [if_pos g4] at h; omega
    rw [if_neg g4] at h
    by_cases g5 : b j = 32
    · rw [if_pos g5] at h; omega
    rw [if_neg g5] at h; omega
end WTT
end
section
/-! the class's reader, byte by byte: exactly -/
theorem w_f0 (M : EM) : e_gf 320 [162] M = some (M 162 0) := c_gf c_rd5 (by decide +kernel)
theorem w_f1 (M : EM) : e_gf 321 [162] M = some (M 162 1) := c_gf c_rd5 (by decide +kernel)
theorem w_f2 (M : EM) : e_gf 322 [162] M = some (M 162 2) := c_gf c_rd5 (by decide +kernel)
theorem w_f3 (M : EM) : e_gf 323 [162] M = some (M 162 3) := c_gf c_rd5 (by decide +kernel)
theorem w_f4 (M : EM) : e_gf 324 [162] M = some (M 162 4) := c_gf c_rd5 (by decide +kernel)
theorem w_f5 (M : EM) : e_gf 325 [162] M = some (M 162 5) := c_gf c_rd5 (by decide +kernel)
theorem w_f6 (M : EM) : e_gf 326 [162] M = some (M 162 6) := c_gf c_rd5 (by decide +kernel)
theorem w_f7 (M : EM) : e_gf 327 [162] M = some (M 162 7) := c_gf c_rd5 (by decide +kernel)
theorem w_f8 (M : EM) : e_gf 328 [162] M = some (M 162 8) := c_gf c_rd5 (by decide +kernel)
theorem w_p0 (v : Int) (M : EM) : e_pf 320 [162, v] M = some (e_up M 162 0 v) := c_pf c_rd5 (by decide +kernel)
theorem w_p1 (v : Int) (M : EM) : e_pf 321 [162, v] M = some (e_up M 162 1 v) := c_pf c_rd5 (by decide +kernel)
theorem w_p2 (v : Int) (M : EM) : e_pf 322 [162, v] M = some (e_up M 162 2 v) := c_pf c_rd5 (by decide +kernel)
theorem w_p3 (v : Int) (M : EM) : e_pf 323 [162, v] M = some (e_up M 162 3 v) := c_pf c_rd5 (by decide +kernel)
theorem w_p4 (v : Int) (M : EM) : e_pf 324 [162, v] M = some (e_up M 162 4 v) := c_pf c_rd5 (by decide +kernel)
theorem w_p5 (v : Int) (M : EM) : e_pf 325 [162, v] M = some (e_up M 162 5 v) := c_pf c_rd5 (by decide +kernel)
theorem w_p6 (v : Int) (M : EM) : e_pf 326 [162, v] M = some (e_up M 162 6 v) := c_pf c_rd5 (by decide +kernel)
theorem w_p7 (v : Int) (M : EM) : e_pf 327 [162, v] M = some (e_up M 162 7 v) := c_pf c_rd5 (by decide +kernel)
theorem w_p8 (v : Int) (M : EM) : e_pf 328 [162, v] M = some (e_up M 162 8 v) := c_pf c_rd5 (by decide +kernel)
theorem w_a9 (M : EM) : e_gf 329 [162] M = some 163 := p_g 329 162 163 M (by decide +kernel)
theorem w_aA (M : EM) : e_gf 330 [162] M = some 164 := p_g 330 162 164 M (by decide +kernel)
theorem w_aB (M : EM) : e_gf 331 [162] M = some 165 := p_g 331 162 165 M (by decide +kernel)
theorem w_aC (M : EM) : e_gf 332 [162] M = some 166 := p_g 332 162 166 M (by decide +kernel)
theorem w_aD (M : EM) : e_gf 333 [162] M = some 167 := p_g 333 162 167 M (by decide +kernel)
theorem w_aE (M : EM) : e_gf 334 [162] M = some 168 := p_g 334 162 168 M (by decide +kernel)
theorem w_aF (M : EM) : e_gf 335 [162] M = some 169 := p_g 335 162 169 M (by decide +kernel)
theorem w_layN {a i : Int} {n : Nat} (h : 8 ≤ a ∧ a.toNat < e_N ∧ e_sh a.toNat = (100, n)) {j : Nat} (e : i = j) (hj : j < n) (v : Int) (M : EM) : E_C 147 [a, i, v] M = some (0, e_up M a.toNat j v) := by
  subst e
  rw [p_layd h ⟨by omega, by omega⟩]
  rfl
theorem w_atN {a i : Int} {n : Nat} (h : 8 ≤ a ∧ a.toNat < e_N ∧ e_sh a.toNat = (100, n)) {j : Nat} (e : i = j) (hj : j < n) (M : EM) : E_C 146 [a, i] M = some (M a.toNat j, M) := by
  subst e
  rw [p_at h ⟨by omega, by omega⟩]
  rfl
def w_M0 (M : EM) (c : Int) : EM := e_up (e_up (e_up (e_up (e_up (e_up (e_up M 163 (M 162 7).toNat (M 162 1)) 164 (M 162 7).toNat c) 162 3 c) 162 4 0) 162 5 0) 162 6 1) 162 2 1
def w_M1 (M : EM) (d : Int) : EM := e_up (e_up (e_up (e_up (e_up M 167 (M 162 8).toNat d) 168 (M 162 8).toNat (M 162 6 - 1)) 169 (M 162 8).toNat (M 162 5)) 162 8 (M 162 8 + 1)) 162 2 (if d = 0 then 3 else 2)
def w_M2 (M : EM) : EM := e_up (e_up M 162 4 1) 162 2 1
def w_M3 (M : EM) : EM := e_up (e_up M 162 5 0) 162 2 3
def w_M4 (M : EM) : EM := e_up (e_up (if M 162 5 = 0 then e_up M 162 6 (M 162 6 + 1) else M) 162 4 0) 162 2 1
def w_M5 (M : EM) : EM := e_up (e_up (e_up (e_up M 166 (M 162 7).toNat (M 162 6)) 162 7 (M 162 7 + 1)) 165 (M 162 7 + 1).toNat (M 162 8)) 162 2 0
def w_M6 (M : EM) (c : Int) : EM := e_up (e_up M 167 (M 162 8 - 1).toNat (10 * M 167 (M 162 8 - 1).toNat + c - 48)) 162 2 3
theorem w_r (u : Nat) (as : List Int) (M : EM) (h : e_rok u as = true) : E_C u as M = e_tv E_C (E_V u) (e_tr u 0) (e_pad u as) M := r_ent h
theorem w_61 {c : Int} {M : EM} (h7 : 0 ≤ M 162 7 ∧ M 162 7 < 120) : E_C 61 [162, c] M = if c = 99 ∨ c = 114 ∨ c = 102 ∨ c = 98 then some (1, w_M0 M c) else some (0, M) := by
  have s0 : E_C 61 [162, c] M = e_tv E_C (E_V 61) e_t61_0 [162, c] M := r_ent (u := 61) (as := [162, c]) (M := M) (decide_eq_true c_rd5)
  rw [s0]
  unfold e_t61_0
  have l0 := fun v M' => p_layd (a := 163) (i := M 162 7) (v := v) (n := 120) (by decide +kernel) h7 M'
  have l1 := fun v M' => p_layd (a := 164) (i := M 162 7) (v := v) (n := 120) (by decide +kernel) h7 M'
  unfold w_M0
  by_cases q1 : c = 99
  · simp [e_tv, e_ev, e_sv, e_b1, e_b2, x_o1, x_o2, w_f1, w_f7, w_a9, w_aA, w_p2, w_p3, w_p4, w_p5, w_p6, l0, l1, c_up_n, q1]
  by_cases q2 : c = 114
  · simp [e_tv, e_ev, e_sv, e_b1, e_b2, x_o1, x_o2, w_f1, w_f7, w_a9, w_aA, w_p2, w_p3, w_p4, w_p5, w_p6, l0, l1, c_up_n, q2]
  by_cases q3 : c = 102
  · simp [e_tv, e_ev, e_sv, e_b1, e_b2, x_o1, x_o2, w_f1, w_f7, w_a9, w_aA, w_p2, w_p3, w_p4, w_p5, w_p6, l0, l1, c_up_n, q3]
  by_cases q4 : c = 98
  · simp [e_tv, e_ev, e_sv, e_b1, e_b2, x_o1, x_o2, w_f1, w_f7, w_a9, w_aA, w_p2, w_p3, w_p4, w_p5, w_p6, l0, l1, c_up_n, q4]
  simp [e_tv, e_ev, e_sv, e_b1, e_b2, x_o1, x_o2, q1, q2, q3, q4]
theorem w_62 {d : Int} {M : EM} (h8 : 0 ≤ M 162 8 ∧ M 162 8 < 120) (h6 : 1 ≤ M 162 6 ∧ M 162 6 ≤ 130) : E_C 62 [162, d] M = some (1, w_M1 M d) := by
  have s0 : E_C 62 [162, d] M = e_tv E_C (E_V 62) e_t62_0 [162, d] M := r_ent (u := 62) (as := [162, d]) (M := M) (decide_eq_true c_rd5)
  rw [s0]
  unfold e_t62_0
  have l0 := fun v M' => p_layd (a := 167) (i := M 162 8) (v := v) (n := 120) (by decide +kernel) h8 M'
  have l1 := fun v M' => p_layd (a := 168) (i := M 162 8) (v := v) (n := 120) (by decide +kernel) h8 M'
  have l2 := fun v M' => p_layd (a := 169) (i := M 162 8) (v := v) (n := 120) (by decide +kernel) h8 M'
  have w1 : e_w (M 162 6 - 1) = M 162 6 - 1 := a_w_id (by omega) (by omega)
  have w2 : e_w (M 162 8 + 1) = M 162 8 + 1 := a_w_id (by omega) (by omega)
  unfold w_M1
  by_cases q : d = 0
  · simp [e_tv, e_ev, e_sv, e_b1, e_b2, x_o1, x_o2, w_f5, w_f6, w_f8, w_aD, w_aE, w_aF, w_p2, w_p8, l0, l1, l2, w1, w2, c_up_n, q]
  · simp [e_tv, e_ev, e_sv, e_b1, e_b2, x_o1, x_o2, w_f5, w_f6, w_f8, w_aD, w_aE, w_aF, w_p2, w_p8, l0, l1, l2, w1, w2, c_up_n, q]
theorem w_63 {c : Int} {M : EM} : E_C 63 [162, c] M = if c = 91 ∧ M 162 3 = 114 ∧ M 162 5 = 0 then some (1, e_up M 162 5 1) else some (0, M) := by
  have s0 : E_C 63 [162, c] M = e_tv E_C (E_V 63) e_t63_0 [162, c] M := r_ent (u := 63) (as := [162, c]) (M := M) (decide_eq_true c_rd5)
  rw [s0]
  unfold e_t63_0
  by_cases q1 : c = 91
  · by_cases q2 : M 162 3 = 114
    · by_cases q3 : M 162 5 = 0
      · simp [e_tv, e_ev, e_sv, e_b1, e_b2, x_o1, x_o2, w_f3, w_f5, w_p5, q1, q2, q3]
      · simp [e_tv, e_ev, e_sv, e_b1, e_b2, x_o1, x_o2, w_f3, w_f5, w_p5, q1, q2, q3]
    · simp [e_tv, e_ev, e_sv, e_b1, e_b2, x_o1, x_o2, w_f3, w_f5, w_p5, q1, q2]
  · simp [e_tv, e_ev, e_sv, e_b1, e_b2, x_o1, x_o2, w_f3, w_f5, w_p5, q1]
theorem w_64 {M : EM} : E_C 64 [162] M = if M 162 3 = 99 ∧ M 162 4 = 0 then some (1, w_M2 M) else some (0, M) := by
  have s0 : E_C 64 [162] M = e_tv E_C (E_V 64) e_t64_0 [162] M := r_ent (u := 64) (as := [162]) (M := M) (decide_eq_true c_rd5)
  rw [s0]
  unfold e_t64_0 w_M2
  by_cases q1 : M 162 3 = 99
  · by_cases q2 : M 162 4 = 0
    · simp [e_tv, e_ev, e_sv, e_b1, e_b2, x_o1, x_o2, w_f3, w_f4, w_p4, w_p2, q1, q2]
    · simp [e_tv, e_ev, e_sv, e_b1, e_b2, x_o1, x_o2, w_f3, w_f4, w_p4, w_p2, q1, q2]
  · simp [e_tv, e_ev, e_sv, e_b1, e_b2, x_o1, x_o2, w_f3, w_f4, w_p4, w_p2, q1]
theorem w_65 {M : EM} : E_C 65 [162] M = if M 162 5 ≠ 0 then some (1, w_M3 M) else some (0, M) := by
  have s0 : E_C 65 [162] M = e_tv E_C (E_V 65) e_t65_0 [162] M := r_ent (u := 65) (as := [162]) (M := M) (decide_eq_true c_rd5)
  rw [s0]
  unfold e_t65_0 w_M3
  by_cases q1 : M 162 5 = 0
  · simp [e_tv, e_ev, e_sv, e_b1, e_b2, x_o1, x_o2, w_f5, w_p5, w_p2, q1]
  · simp [e_tv, e_ev, e_sv, e_b1, e_b2, x_o1, x_o2, w_f5, w_p5, w_p2, q1]
theorem w_66 {M : EM} (h6 : -1 ≤ M 162 6 ∧ M 162 6 ≤ 130) : E_C 66 [162] M = if M 162 3 ≠ 98 ∧ ¬ (M 162 3 = 99 ∧ M 162 4 = 0) then some (1, w_M4 M) else some (0, M) := by
  have s0 : E_C 66 [162] M = e_tv E_C (E_V 66) e_t66_0 [162] M := r_ent (u := 66) (as := [162]) (M := M) (decide_eq_true c_rd5)
  have s44 : ∀ M', E_V 66 44 [162] M' = some (1, e_up (e_up M' 162 4 0) 162 2 1) := by
    intro M'
    rw [E_V_eq]
    show e_tv E_C (E_V 66) e_t66_44 [162] M' = _
    unfold e_t66_44
    simp [e_tv, e_ev, e_sv, e_b1, e_b2, x_o1, x_o2, w_p4, w_p2]
  have w2 : e_w (M 162 6 + 1) = M 162 6 + 1 := a_w_id (by omega) (by omega)
  rw [s0]
  unfold e_t66_0 w_M4
  by_cases q1 : M 162 3 = 98
  · simp [e_tv, e_ev, e_sv, e_b1, e_b2, x_o1, x_o2, w_f3, w_f4, w_f5, q1]
  · by_cases q2 : M 162 3 = 99
    · by_cases q3 : M 162 4 = 0
      · simp [e_tv, e_ev, e_sv, e_b1, e_b2, x_o1, x_o2, w_f3, w_f4, w_f5, q1, q2, q3]
      · by_cases q4 : M 162 5 = 0
        · simp [e_tv, e_ev, e_sv, e_b1, e_b2, x_o1, x_o2, w_f3, w_f4, w_f5, w_f6, w_p6, w2, s44, q1, q2, q3, q4]
        · simp [e_tv, e_ev, e_sv, e_b1, e_b2, x_o1, x_o2, w_f3, w_f4, w_f5, w_f6, w_p6, w2, s44, q1, q2, q3, q4]
    · by_cases q4 : M 162 5 = 0
      · simp [e_tv, e_ev, e_sv, e_b1, e_b2, x_o1, x_o2, w_f3, w_f4, w_f5, w_f6, w_p6, w2, s44, q1, q2, q4]
      · simp [e_tv, e_ev, e_sv, e_b1, e_b2, x_o1, x_o2, w_f3, w_f4, w_f5, w_f6, w_p6, w2, s44, q1, q2, q4]
theorem w_67 {M : EM} (h7 : 0 ≤ M 162 7 ∧ M 162 7 < 120) : E_C 67 [162] M = if M 162 5 = 0 ∧ ¬ (M 162 3 = 99 ∧ M 162 4 = 0) then some (1, w_M5 M) else some (0, M) := by
  have s0 : E_C 67 [162] M = e_tv E_C (E_V 67) e_t67_0 [162] M := r_ent (u := 67) (as := [162]) (M := M) (decide_eq_true c_rd5)
  have l0 := fun v M' => p_layd (a := 166) (i := M 162 7) (v := v) (n := 120) (by decide +kernel) h7 M'
  have l1 := fun v M' => p_layd (a := 165) (i := M 162 7 + 1) (v := v) (n := 121) (by decide +kernel) ⟨by omega, by omega⟩ M'
  have w2 : e_w (M 162 7 + 1) = M 162 7 + 1 := a_w_id (by omega) (by omega)
  rw [s0]
  unfold e_t67_0 w_M5
  by_cases q1 : M 162 5 = 0
  · by_cases q2 : M 162 3 = 99
    · by_cases q3 : M 162 4 = 0
      · simp [e_tv, e_ev, e_sv, e_b1, e_b2, x_o1, x_o2, w_f3, w_f4, w_f5, q1, q2, q3]
      · simp [e_tv, e_ev, e_sv, e_b1, e_b2, x_o1, x_o2, w_f3, w_f4, w_f5, w_f6, w_f7, w_f8, w_p7, w_p2, w_aC, w_aB, l0, l1, w2, c_up_n, c_up_s, q1, q2, q3]
    · simp [e_tv, e_ev, e_sv, e_b1, e_b2, x_o1, x_o2, w_f3, w_f4, w_f5, w_f6, w_f7, w_f8, w_p7, w_p2, w_aC, w_aB, l0, l1, w2, c_up_n, c_up_s, q1, q2]
  · simp [e_tv, e_ev, e_sv, e_b1, e_b2, x_o1, x_o2, w_f3, w_f4, w_f5, q1]
def w_M (M : EM) (c : Int) : EM :=
  if M 162 2 = 0 then w_M0 M c
  else if M 162 2 = 1 then (if 48 ≤ c ∧ c ≤ 57 then w_M1 M (c - 48) else e_up M 162 5 1)
  else if M 162 2 = 2 ∧ 48 ≤ c ∧ c ≤ 57 then w_M6 M c
  else if c = 47 then w_M2 M
  else if c = 93 then w_M3 M
  else if c = 32 then w_M4 M
  else w_M5 M
theorem w_goOn {c : Int} {M : EM} (hc : -2147483648 ≤ c ∧ c ≤ 2147483647) (h2 : 0 ≤ M 162 2 ∧ M 162 2 ≤ 3) (h7 : 0 ≤ M 162 7 ∧ M 162 7 < 120) (h8 : 0 ≤ M 162 8 ∧ M 162 8 < 120) (h6 : M 162 2 ≠ 0 → 1 ≤ M 162 6 ∧ M 162 6 ≤ 130) (hm : M 162 2 = 2 → 1 ≤ M 162 8 ∧ 0 ≤ M 167 (M 162 8 - 1).toNat ∧ M 167 (M 162 8 - 1).toNat ≤ 9) : (w_ok (M 162) c → E_C 60 [162, c] M = some (1, w_M M c)) ∧ (¬ w_ok (M 162) c → E_C 60 [162, c] M = some (0, M)) := by
  have s0 : E_C 60 [162, c] M = e_tv E_C (E_V 60) e_t60_0 [162, c, 0] M := r_ent (u := 60) (as := [162, c]) (M := M) (decide_eq_true c_rd5)
  rw [s0]
  unfold e_t60_0 w_ok w_M
  by_cases q0 : M 162 2 = 0
  · have k := w_61 (c := c) h7
    simp only [q0, if_true]
    by_cases q : c = 99 ∨ c = 114 ∨ c = 102 ∨ c = 98
    · rw [if_pos q] at k
      refine ⟨fun _ => ?_, fun e => absurd q e⟩
      simp [e_tv, e_ev, e_sv, e_b1, e_b2, x_o1, x_o2, w_f2, q0, k]
    · rw [if_neg q] at k
      refine ⟨fun e => absurd e q, fun _ => ?_⟩
      simp [e_tv, e_ev, e_sv, e_b1, e_b2, x_o1, x_o2, w_f2, q0, k]
  have h6 := h6 q0
  by_cases q1 : M 162 2 = 1
  · simp only [q1, if_true]
    rw [if_neg (by decide), if_neg (by decide)]
    by_cases dg : 48 ≤ c ∧ c ≤ 57
    · obtain ⟨d1, d2⟩ := dg
      have d1_n : ¬ c < 48 := by omega
      have d2_n : ¬ 57 < c := by omega
      have w1 : e_w (c - 48) = c - 48 := a_w_id (by omega) (by omega)
      have k := w_62 (d := c - 48) h8 h6
      rw [if_pos ⟨d1, d2⟩]
      refine ⟨fun _ => ?_, fun e => absurd (Or.inl ⟨d1, d2⟩) e⟩
      simp [e_tv, e_ev, e_sv, e_b1, e_b2, x_o1, x_o2, w_f2, q1, k, w1, d1, d1_n, d2, d2_n]
    · have k := w_63 (c := c) (M := M)
      rw [if_neg dg]
      by_cases q : c = 91 ∧ M 162 3 = 114 ∧ M 162 5 = 0
      · rw [if_pos q] at k
        refine ⟨fun _ => ?_, fun e => absurd (Or.inr q) e⟩
        have q' := q.1
        subst q'
        simp [e_tv, e_ev, e_sv, e_b1, e_b2, x_o1, x_o2, w_f2, q1, k]
      · rw [if_neg q] at k
        refine ⟨fun e => by omega, fun _ => ?_⟩
        rcases x_le 48 c with ⟨d1, d1_n⟩ | ⟨d1, d1_n⟩
        · have d2 : ¬ c ≤ 57 := fun h => dg ⟨d1, h⟩
          simp [e_tv, e_ev, e_sv, e_b1, e_b2, x_o1, x_o2, w_f2, q1, k, d1, d1_n, d2]
        · simp [e_tv, e_ev, e_sv, e_b1, e_b2, x_o1, x_o2, w_f2, q1, k, d1, d1_n]
  by_cases q2 : M 162 2 = 2 ∧ 48 ≤ c ∧ c ≤ 57
  · obtain ⟨q2, d1, d2⟩ := q2
    obtain ⟨m1, m2, m3⟩ := hm q2
    have d1_n : ¬ c < 48 := by omega
    have d2_n : ¬ 57 < c := by omega
    rw [if_neg q0, if_neg q0, if_neg q1, if_neg q1, if_pos ⟨q2, d1, d2⟩]
    obtain ⟨z, hz⟩ : ∃ z : Nat, M 162 8 - 1 = (z : Int) := ⟨(M 162 8 - 1).toNat, by omega⟩
    have w0 : e_w (M 162 8 - 1) = (z : Int) := (a_w_id (by omega) (by omega)).trans hz
    rw [hz, Int.toNat_natCast] at m2 m3
    have l0 := fun v M' => w_layN (a := 167) (i := (z : Int)) (n := 120) (by decide +kernel) (j := z) rfl (by omega) v M'
    have t1 : E_C 146 [167, (z : Int)] M = some (M 167 z, M) := w_atN (a := 167) (i := (z : Int)) (n := 120) (by decide +kernel) (j := z) rfl (by omega) M
    have w1 : e_w (10 * M 167 z) = 10 * M 167 z := a_w_id (by omega) (by omega)
    have w2 : e_w (10 * M 167 z + c) = 10 * M 167 z + c := a_w_id (by omega) (by omega)
    have w3 : e_w (10 * M 167 z + c - 48) = 10 * M 167 z + c - 48 := a_w_id (by omega) (by omega)
    unfold w_M6
    rw [hz, Int.toNat_natCast]
    refine ⟨fun _ => ?_, fun e => absurd (Or.inl ⟨q2, d1, d2⟩) e⟩
    simp [e_tv, e_ev, e_sv, e_b1, e_b2, x_o1, x_o2, w_f2, w_f8, w_aD, w_p2, q2, d1, d1_n, d2, d2_n, w0, w1, w2, w3, l0, t1]
  rw [if_neg q0, if_neg q0, if_neg q1, if_neg q1, if_neg q2]
  by_cases q3 : c = 47
  · have k := w_64 (M := M)
    subst q3
    rw [if_pos rfl]
    by_cases q : M 162 3 = 99 ∧ M 162 4 = 0
    · rw [if_pos q] at k
      refine ⟨fun _ => ?_, fun e => absurd (Or.inr (Or.inl ⟨rfl, q⟩)) e⟩
      simp [e_tv, e_ev, e_sv, e_b1, e_b2, x_o1, x_o2, w_f2, q0, q1, k]
    · rw [if_neg q] at k
      refine ⟨fun e => by omega, fun _ => ?_⟩
      simp [e_tv, e_ev, e_sv, e_b1, e_b2, x_o1, x_o2, w_f2, q0, q1, k]
  rw [if_neg q3]
  by_cases q4 : c = 93
  · have k := w_65 (M := M)
    subst q4
    rw [if_pos rfl]
    by_cases q : M 162 5 ≠ 0
    · rw [if_pos q] at k
      refine ⟨fun _ => ?_, fun e => absurd (Or.inr (Or.inr (Or.inl ⟨rfl, q⟩))) e⟩
      simp [e_tv, e_ev, e_sv, e_b1, e_b2, x_o1, x_o2, w_f2, q0, q1, k]
    · rw [if_neg q] at k
      refine ⟨fun e => by omega, fun _ => ?_⟩
      simp [e_tv, e_ev, e_sv, e_b1, e_b2, x_o1, x_o2, w_f2, q0, q1, k]
  rw [if_neg q4]
  by_cases q5 : c = 32
  · have k := w_66 (M := M) ⟨by omega, h6.2⟩
    subst q5
    rw [if_pos rfl]
    by_cases q : M 162 3 ≠ 98 ∧ ¬ (M 162 3 = 99 ∧ M 162 4 = 0)
    · rw [if_pos q] at k
      refine ⟨fun _ => ?_, fun e => absurd (Or.inr (Or.inr (Or.inr (Or.inl ⟨rfl, q⟩)))) e⟩
      simp [e_tv, e_ev, e_sv, e_b1, e_b2, x_o1, x_o2, w_f2, q0, q1, k]
    · rw [if_neg q] at k
      refine ⟨fun e => by omega, fun _ => ?_⟩
      simp [e_tv, e_ev, e_sv, e_b1, e_b2, x_o1, x_o2, w_f2, q0, q1, k]
  rw [if_neg q5]
  have dd : ¬ (M 162 2 = 2 ∧ 48 ≤ c ∧ c ≤ 57) := q2
  by_cases q6 : c = 59
  · have k := w_67 h7
    subst q6
    by_cases q : M 162 5 = 0 ∧ ¬ (M 162 3 = 99 ∧ M 162 4 = 0)
    · rw [if_pos q] at k
      refine ⟨fun _ => ?_, fun e => absurd (Or.inr (Or.inr (Or.inr (Or.inr ⟨rfl, q⟩)))) e⟩
      simp [e_tv, e_ev, e_sv, e_b1, e_b2, x_o1, x_o2, w_f2, q0, q1, k]
    · rw [if_neg q] at k
      refine ⟨fun e => by omega, fun _ => ?_⟩
      simp [e_tv, e_ev, e_sv, e_b1, e_b2, x_o1, x_o2, w_f2, q0, q1, k]
  refine ⟨fun e => by omega, fun _ => ?_⟩
  rcases x_le 48 c with ⟨d1, d1_n⟩ | ⟨d1, d1_n⟩
  · rcases x_le c 57 with ⟨d2, d2_n⟩ | ⟨d2, d2_n⟩
    · have q7 : ¬ (M 162 2 = 2) := fun e => q2 ⟨e, d1, d2⟩
      simp [e_tv, e_ev, e_sv, e_b1, e_b2, x_o1, x_o2, w_f2, q0, q1, q3, q4, q5, q6, q7, d1, d1_n, d2, d2_n]
    · simp [e_tv, e_ev, e_sv, e_b1, e_b2, x_o1, x_o2, w_f2, q0, q1, q3, q4, q5, q6, d1, d1_n, d2, d2_n]
  · simp [e_tv, e_ev, e_sv, e_b1, e_b2, x_o1, x_o2, w_f2, q0, q1, q3, q4, q5, q6, d1, d1_n]
end
section
/-! what a byte writes -/
section WMM
variable {M : EM} {c : Int} {i : Nat}
theorem w_M_o {id : Nat} (h : id < 162 ∨ 169 < id) : w_M M c id i = M id i := by
  unfold w_M w_M0 w_M1 w_M2 w_M3 w_M4 w_M5 w_M6
  have h2 : id ≠ 162 := by omega
  have h3 : id ≠ 163 := by omega
  have h4 : id ≠ 164 := by omega
  have h5 : id ≠ 165 := by omega
  have h6 : id ≠ 166 := by omega
  have h7 : id ≠ 167 := by omega
  have h8 : id ≠ 168 := by omega
  have h9 : id ≠ 169 := by omega
  (repeat' split) <;> simp [e_up, h2, h3, h4, h5, h6, h7, h8, h9]
theorem w_M_01 (h : i < 2) : w_M M c 162 i = M 162 i := by
  unfold w_M w_M0 w_M1 w_M2 w_M3 w_M4 w_M5 w_M6
  have h2 : i ≠ 2 := by omega
  have h3 : i ≠ 3 := by omega
  have h4 : i ≠ 4 := by omega
  have h5 : i ≠ 5 := by omega
  have h6 : i ≠ 6 := by omega
  have h7 : i ≠ 7 := by omega
  have h8 : i ≠ 8 := by omega
  (repeat' split) <;> simp [e_up, h2, h3, h4, h5, h6, h7, h8]
theorem w_M_f (hi : 2 ≤ i ∧ i ≤ 8) : w_M M c 162 i = w_nx (M 162) c i := by
  have hi' : i = 2 ∨ i = 3 ∨ i = 4 ∨ i = 5 ∨ i = 6 ∨ i = 7 ∨ i = 8 := by omega
  unfold w_M w_M0 w_M1 w_M2 w_M3 w_M4 w_M5 w_M6 w_nx
  by_cases q0 : M 162 2 = 0
  · rw [if_pos q0, if_pos q0]
    rcases hi' with rfl | rfl | rfl | rfl | rfl | rfl | rfl <;> simp [e_up]
  rw [if_neg q0, if_neg q0]
  by_cases q1 : M 162 2 = 1
  · rw [if_pos q1, if_pos q1]
    by_cases q2 : 48 ≤ c ∧ c ≤ 57
    · rw [if_pos q2, if_pos q2]
      have e : (c - 48 = 0) = (c = 48) := by apply propext; omega
      rcases hi' with rfl | rfl | rfl | rfl | rfl | rfl | rfl <;> simp [e_up, e]
    · rw [if_neg q2, if_neg q2]
      rcases hi' with rfl | rfl | rfl | rfl | rfl | rfl | rfl <;> simp [e_up]
  rw [if_neg q1, if_neg q1]
  by_cases q2 : M 162 2 = 2 ∧ 48 ≤ c ∧ c ≤ 57
  · rw [if_pos q2, if_pos q2]
    rcases hi' with rfl | rfl | rfl | rfl | rfl | rfl | rfl <;> simp [e_up]
  rw [if_neg q2, if_neg q2]
  by_cases q3 : c = 47
  · rw [if_pos q3, if_pos q3]
    rcases hi' with rfl | rfl | rfl | rfl | rfl | rfl | rfl <;> simp [e_up]
  rw [if_neg q3, if_neg q3]
  by_cases q4 : c = 93
  · rw [if_pos q4, if_pos q4]
    rcases hi' with rfl | rfl | rfl | rfl | rfl | rfl | rfl <;> simp [e_up]
  rw [if_neg q4, if_neg q4]
  by_cases q5 : c = 32
  · rw [if_pos q5, if_pos q5]
    by_cases q6 : M 162 5 = 0
    · rw [if_pos q6]
      rcases hi' with rfl | rfl | rfl | rfl | rfl | rfl | rfl <;> simp [e_up, q6]
    · rw [if_neg q6]
      rcases hi' with rfl | rfl | rfl | rfl | rfl | rfl | rfl <;> simp [e_up, q6]
  rw [if_neg q5, if_neg q5]
  rcases hi' with rfl | rfl | rfl | rfl | rfl | rfl | rfl <;> simp [e_up]
theorem w_M_63 : w_M M c 163 i = if M 162 2 = 0 ∧ i = (M 162 7).toNat then M 162 1 else M 163 i := by
  unfold w_M w_M0 w_M1 w_M2 w_M3 w_M4 w_M5 w_M6
  by_cases q0 : M 162 2 = 0
  · rw [if_pos q0]
    simp [e_up, q0]
  · rw [if_neg q0]
    simp only [q0, false_and, if_false]
    (repeat' split) <;> simp [e_up]
theorem w_M_64 : w_M M c 164 i = if M 162 2 = 0 ∧ i = (M 162 7).toNat then c else M 164 i := by
  unfold w_M w_M0 w_M1 w_M2 w_M3 w_M4 w_M5 w_M6
  by_cases q0 : M 162 2 = 0
  · rw [if_pos q0]
    simp [e_up, q0]
  · rw [if_neg q0]
    simp only [q0, false_and, if_false]
    (repeat' split) <;> simp [e_up]
theorem w_M_5 (hq : M 162 2 ≠ 0 ∧ M 162 2 ≠ 1 ∧ c = 59) : w_M M c = w_M5 M := by
  obtain ⟨a, b, d⟩ := hq
  unfold w_M
  rw [if_neg a, if_neg b, if_neg (by omega), if_neg (by omega), if_neg (by omega), if_neg (by omega)]
theorem w_M_65 (h : w_ok (M 162) c) : w_M M c 165 i = if (M 162 2 ≠ 0 ∧ M 162 2 ≠ 1 ∧ c = 59) ∧ i = (M 162 7 + 1).toNat then M 162 8 else M 165 i := by
  by_cases q : M 162 2 ≠ 0 ∧ M 162 2 ≠ 1 ∧ c = 59
  · rw [w_M_5 q]
    unfold w_M5
    simp [e_up, q]
  · rw [if_neg (fun e => q e.1)]
    unfold w_ok at h
    unfold w_M w_M0 w_M1 w_M2 w_M3 w_M4 w_M6
    by_cases q0 : M 162 2 = 0
    · rw [if_pos q0]; simp [e_up]
    rw [if_neg q0] at h ⊢
    by_cases q1 : M 162 2 = 1
    · rw [if_pos q1]
      split <;> simp [e_up]
    rw [if_neg q1] at h ⊢
    by_cases q2 : M 162 2 = 2 ∧ 48 ≤ c ∧ c ≤ 57
    · rw [if_pos q2]; simp [e_up]
    rw [if_neg q2]
    by_cases q3 : c = 47
    · rw [if_pos q3]; simp [e_up]
    rw [if_neg q3]
    by_cases q4 : c = 93
    · rw [if_pos q4]; simp [e_up]
    rw [if_neg q4]
    by_cases q5 : c = 32
    · rw [if_pos q5]; split <;> simp [e_up]
    exact absurd ⟨q0, q1, by omega⟩ q
theorem w_M_66 (h : w_ok (M 162) c) : w_M M c 166 i = if (M 162 2 ≠ 0 ∧ M 162 2 ≠ 1 ∧ c = 59) ∧ i = (M 162 7).toNat then M 162 6 else M 166 i := by
  by_cases q : M 162 2 ≠ 0 ∧ M 162 2 ≠ 1 ∧ c = 59
  · rw [w_M_5 q]
    unfold w_M5
    simp [e_up, q]
  · rw [if_neg (fun e => q e.1)]
    unfold w_ok at h
    unfold w_M w_M0 w_M1 w_M2 w_M3 w_M4 w_M6
    by_cases q0 : M 162 2 = 0
    · rw [if_pos q0]; simp [e_up]
    rw [if_neg q0] at h ⊢
    by_cases q1 : M 162 2 = 1
    · rw [if_pos q1]
      split <;> simp [e_up]
    rw [if_neg q1] at h ⊢
    by_cases q2 : M 162 2 = 2 ∧ 48 ≤ c ∧ c ≤ 57
    · rw [if_pos q2]; simp [e_up]
    rw [if_neg q2]
    by_cases q3 : c = 47
    · rw [if_pos q3]; simp [e_up]
    rw [if_neg q3]
    by_cases q4 : c = 93
    · rw [if_pos q4]; simp [e_up]
    rw [if_neg q4]
    by_cases q5 : c = 32
    · rw [if_pos q5]; split <;> simp [e_up]
    exact absurd ⟨q0, q1, by omega⟩ q
theorem w_M_67 : w_M M c 167 i = if (M 162 2 = 1 ∧ 48 ≤ c ∧ c ≤ 57) ∧ i = (M 162 8).toNat then c - 48 else if (M 162 2 = 2 ∧ 48 ≤ c ∧ c ≤ 57) ∧ i = (M 162 8 - 1).toNat then 10 * M 167 (M 162 8 - 1).toNat + c - 48 else M 167 i := by
  unfold w_M w_M0 w_M1 w_M2 w_M3 w_M4 w_M5 w_M6
  by_cases q0 : M 162 2 = 0
  · rw [if_pos q0]
    simp [e_up, q0]
  rw [if_neg q0]
  by_cases q1 : M 162 2 = 1
  · rw [if_pos q1]
    by_cases q2 : 48 ≤ c ∧ c ≤ 57
    · rw [if_pos q2]
      simp [e_up, q1, q2]
    · rw [if_neg q2]
      simp [e_up, q1, q2]
  rw [if_neg q1]
  by_cases q2 : M 162 2 = 2 ∧ 48 ≤ c ∧ c ≤ 57
  · rw [if_pos q2]
    simp [e_up, q2]
  rw [if_neg q2]
  simp only [q1, q2, false_and, if_false]
  (repeat' split) <;> simp [e_up]
theorem w_M_68 : w_M M c 168 i = if (M 162 2 = 1 ∧ 48 ≤ c ∧ c ≤ 57) ∧ i = (M 162 8).toNat then M 162 6 - 1 else M 168 i := by
  unfold w_M w_M0 w_M1 w_M2 w_M3 w_M4 w_M5 w_M6
  by_cases q0 : M 162 2 = 0
  · rw [if_pos q0]
    simp [e_up, q0]
  rw [if_neg q0]
  by_cases q1 : M 162 2 = 1
  · rw [if_pos q1]
    by_cases q2 : 48 ≤ c ∧ c ≤ 57
    · rw [if_pos q2]
      simp [e_up, q1, q2]
    · rw [if_neg q2]
      simp [e_up, q1, q2]
  rw [if_neg q1]
  simp only [q1, false_and, if_false]
  (repeat' split) <;> simp [e_up]
theorem w_M_69 : w_M M c 169 i = if (M 162 2 = 1 ∧ 48 ≤ c ∧ c ≤ 57) ∧ i = (M 162 8).toNat then M 162 5 else M 169 i := by
  unfold w_M w_M0 w_M1 w_M2 w_M3 w_M4 w_M5 w_M6
  by_cases q0 : M 162 2 = 0
  · rw [if_pos q0]
    simp [e_up, q0]
  rw [if_neg q0]
  by_cases q1 : M 162 2 = 1
  · rw [if_pos q1]
    by_cases q2 : 48 ≤ c ∧ c ≤ 57
    · rw [if_pos q2]
      simp [e_up, q1, q2]
    · rw [if_neg q2]
      simp [e_up, q1, q2]
  rw [if_neg q1]
  simp only [q1, false_and, if_false]
  (repeat' split) <;> simp [e_up]
end WMM
/-- what stands in the reader's rows after k bytes -/
def w_K (b : Nat → Int) (k : Nat) (M : EM) : Prop :=
  (M 162 2 = w_T b k 2 ∧ M 162 7 = w_T b k 7 ∧ M 162 8 = w_T b k 8 ∧ (w_T b k 2 ≠ 0 → M 162 3 = w_T b k 3 ∧ M 162 4 = w_T b k 4 ∧ M 162 5 = w_T b k 5 ∧ M 162 6 = w_T b k 6)) ∧
  (∀ j, j < k → w_T b j 2 = 0 → M 163 (w_T b j 7).toNat = j ∧ M 164 (w_T b j 7).toNat = b j) ∧
  (∀ j, j ≤ k → w_T b j 2 = 0 → M 165 (w_T b j 7).toNat = w_T b j 8 ∧ (0 < j → M 166 (w_T b j 7 - 1).toNat = w_T b j 6)) ∧
  (∀ j, j < k → w_N b j → M 167 (w_T b j 8).toNat = w_v b k j ∧ M 168 (w_T b j 8).toNat = w_T b j 6 - 1 ∧ M 169 (w_T b j 8).toNat = w_T b j 5)
theorem w_ok_c {s t : Nat → Int} {c : Int} (h2 : s 2 = t 2) (h : t 2 ≠ 0 → s 3 = t 3 ∧ s 4 = t 4 ∧ s 5 = t 5) : w_ok s c ↔ w_ok t c := by
  unfold w_ok
  rw [h2]
  by_cases q : t 2 = 0
  · rw [if_pos q, if_pos q]
  · obtain ⟨a, b, d⟩ := h q
    rw [a, b, d]
theorem w_Kok {b : Nat → Int} {k : Nat} {M : EM} (hK : w_K b k M) (c : Int) : w_ok (M 162) c ↔ w_ok (w_T b k) c := by
  obtain ⟨⟨f2, f7, f8, ff⟩, -⟩ := hK
  exact w_ok_c f2 (fun h => ⟨(ff h).1, (ff h).2.1, (ff h).2.2.1⟩)
theorem w_Kn {b : Nat → Int} {k : Nat} {M : EM} (hK : w_K b k M) (hA : w_A b k) (ok : w_ok (w_T b k) (b k)) (h1 : M 162 1 = k) : w_K b (k + 1) (w_M M (b k)) := by
  have ok' := (w_Kok hK (b k)).mpr ok
  have hI := w_Ii hA
  have hI1 := w_Ii (w_As hA ok)
  have hA1 := w_As hA ok
  obtain ⟨⟨f2, f7, f8, ff⟩, ks, ke, kn⟩ := hK
  have e2 := w_M_f (M := M) (c := b k) (i := 2) (by omega)
  have e3 := w_M_f (M := M) (c := b k) (i := 3) (by omega)
  have e4 := w_M_f (M := M) (c := b k) (i := 4) (by omega)
  have e5 := w_M_f (M := M) (c := b k) (i := 5) (by omega)
  have e6 := w_M_f (M := M) (c := b k) (i := 6) (by omega)
  have e7 := w_M_f (M := M) (c := b k) (i := 7) (by omega)
  have e8 := w_M_f (M := M) (c := b k) (i := 8) (by omega)
  have t2 : w_M M (b k) 162 2 = w_T b (k + 1) 2 := by rw [e2, w_Tn, w_nx2, w_nx2, f2]
  have t7 : w_M M (b k) 162 7 = w_T b (k + 1) 7 := by rw [e7, w_Tn, w_nx7 ok', w_nx7 ok, f2, f7]
  have t8 : w_M M (b k) 162 8 = w_T b (k + 1) 8 := by rw [e8, w_Tn, w_nx8, w_nx8, f2, f8]
  unfold w_I at hI hI1
  refine ⟨⟨t2, t7, t8, fun hz => ?_⟩, fun j hj z => ?_, fun j hj z => ?_, fun j hj z => ?_⟩
  · rw [e3, e4, e5, e6, w_Tn, w_nx3, w_nx3, w_nx4, w_nx4, w_nx5, w_nx5, w_nx6, w_nx6, f2]
    by_cases q : w_T b k 2 = 0
    · simp only [q, if_true, and_self]
    · obtain ⟨a3, a4, a5, a6⟩ := ff q
      rw [a3, a4, a5, a6]
      exact ⟨rfl, rfl, rfl, rfl⟩
  · rw [w_M_63, w_M_64, f2, f7, h1]
    by_cases q : j = k
    · subst q
      rw [if_pos ⟨z, rfl⟩, if_pos ⟨z, rfl⟩]
      exact ⟨rfl, rfl⟩
    · have hn : ¬ (w_T b k 2 = 0 ∧ (w_T b j 7).toNat = (w_T b k 7).toNat) := by
        intro hc
        have := w_S7 hA (show j < k by omega) hc.1
        have := w_Ii (w_Al hA (show j ≤ k by omega))
        unfold w_I at this
        omega
      rw [if_neg hn, if_neg hn]
      exact ks j (by omega) z
  · rw [w_M_65 ok', w_M_66 ok', f2, f7, f8]
    by_cases q : j = k + 1
    · subst q
      have z' := z
      rw [w_Tn, w_nx2] at z'
      have hq : w_T b k 2 ≠ 0 ∧ w_T b k 2 ≠ 1 ∧ b k = 59 := by
        by_cases q0 : w_T b k 2 = 0
        · rw [if_pos q0] at z'; omega
        rw [if_neg q0] at z'
        by_cases q1 : w_T b k 2 = 1
        · rw [if_pos q1] at z'
          split at z'
          · split at z' <;> omega
          · omega
        rw [if_neg q1] at z'
        by_cases q2 : w_T b k 2 = 2 ∧ 48 ≤ b k ∧ b k ≤ 57
        · rw [if_pos q2] at z'; omega
        rw [if_neg q2] at z'
        by_cases q3 : b k = 47
        · rw [if_pos q3] at z'; omega
        rw [if_neg q3] at z'
        by_cases q4 : b k = 93
        · rw [if_pos q4] at z'; omega
        rw [if_neg q4] at z'
        by_cases q5 : b k = 32
        · rw [if_pos q5] at z'; omega
        unfold w_ok at ok
        rw [if_neg q0, if_neg q1] at ok
        exact ⟨q0, q1, by omega⟩
      have e7 : w_T b (k + 1) 7 = w_T b k 7 + 1 := by rw [w_Tn, w_nx7 ok, if_pos hq]
      have e8 : w_T b (k + 1) 8 = w_T b k 8 := by rw [w_Tn, w_nx8, if_neg (fun e => hq.2.1 e.1)]
      have e6 : w_T b (k + 1) 6 = w_T b k 6 := by
        rw [w_Tn, w_nx6, if_neg hq.1, if_neg hq.2.1, if_neg (by omega), if_neg (by omega)]
      rw [e7, e8, e6, if_pos ⟨hq, rfl⟩, if_pos ⟨hq, by omega⟩]
      exact ⟨rfl, fun _ => (ff hq.1).2.2.2⟩
    · have i7 := w_m7 hA (show j ≤ k by omega)
      have ij := w_Ii (w_Al hA (show j ≤ k by omega))
      unfold w_I at ij
      obtain ⟨g1, g2⟩ := ke j (by omega) z
      rw [if_neg (fun e => by have := e.2; omega)]
      refine ⟨g1, fun hp => ?_⟩
      have i0 : 1 ≤ w_T b j 7 := by
        have := w_S7 (b := b) (k := 0) (j := j) (w_Al hA (by omega)) hp z
        have e : w_T b 0 7 = 0 := rfl
        omega
      rw [if_neg (fun e => by have := e.2; omega)]
      exact g2 hp
  · rw [w_M_67, w_M_68, w_M_69, f2, f8]
    by_cases q : j = k
    · subst q
      obtain ⟨z1, z2⟩ := z
      obtain ⟨a3, a4, a5, a6⟩ := ff (by omega)
      rw [if_pos ⟨⟨z1, z2⟩, rfl⟩, if_pos ⟨⟨z1, z2⟩, rfl⟩, if_pos ⟨⟨z1, z2⟩, rfl⟩, a5, a6]
      refine ⟨?_, rfl, rfl⟩
      unfold w_v
      rw [if_neg (by omega)]
    · obtain ⟨g1, g2, g3⟩ := kn j (by omega) z
      have l8 := w_N8 z (show j < k by omega)
      have ij := w_Ii (w_Al hA (show j ≤ k by omega))
      unfold w_I at ij
      have hn : ¬ ((w_T b k 2 = 1 ∧ 48 ≤ b k ∧ b k ≤ 57) ∧ (w_T b j 8).toNat = (w_T b k 8).toNat) := fun e => by have := e.2; omega
      rw [if_neg hn, if_neg hn, if_neg hn]
      refine ⟨?_, g2, g3⟩
      by_cases c2 : (w_T b k 2 = 2 ∧ 48 ≤ b k ∧ b k ≤ 57) ∧ (w_T b j 8).toNat = (w_T b k 8 - 1).toNat
      · rw [if_pos c2]
        obtain ⟨⟨c2, c3⟩, c4⟩ := c2
        obtain ⟨i, rfl, n1, n2⟩ := w_more hA c2
        have e8 := w_n8 n1
        have hji : j = i := by
          by_cases h : j = i
          · exact h
          · have := w_N8 z (show j < i by omega); omega
        subst hji
        rw [← c4, g1]
        unfold w_v
        have d1 : ¬ (b j ≠ 48 ∧ j + 1 < j + 1 ∧ 48 ≤ b (j + 1) ∧ b (j + 1) ≤ 57) := by omega
        have d2 : b j ≠ 48 ∧ j + 1 < j + 1 + 1 ∧ 48 ≤ b (j + 1) ∧ b (j + 1) ≤ 57 := by omega
        rw [if_neg d1, if_pos d2]
      · rw [if_neg c2, g1]
        unfold w_v
        by_cases h : k > j + 1
        · by_cases c3 : b j ≠ 48 ∧ 48 ≤ b (j + 1) ∧ b (j + 1) ≤ 57
          · have h1 : b j ≠ 48 ∧ j + 1 < k ∧ 48 ≤ b (j + 1) ∧ b (j + 1) ≤ 57 := ⟨c3.1, h, c3.2⟩
            have h2 : b j ≠ 48 ∧ j + 1 < k + 1 ∧ 48 ≤ b (j + 1) ∧ b (j + 1) ≤ 57 := ⟨c3.1, by omega, c3.2⟩
            rw [if_pos h1, if_pos h2]
          · have h1 : ¬ (b j ≠ 48 ∧ j + 1 < k ∧ 48 ≤ b (j + 1) ∧ b (j + 1) ≤ 57) := fun e => c3 ⟨e.1, e.2.2⟩
            have h2 : ¬ (b j ≠ 48 ∧ j + 1 < k + 1 ∧ 48 ≤ b (j + 1) ∧ b (j + 1) ≤ 57) := fun e => c3 ⟨e.1, e.2.2⟩
            rw [if_neg h1, if_neg h2]
        · have hk : k = j + 1 := by omega
          subst hk
          rw [if_neg (by omega)]
          by_cases c3 : b j ≠ 48 ∧ 48 ≤ b (j + 1) ∧ b (j + 1) ≤ 57
          · exfalso
            apply c2
            have e8 := w_n8 z
            refine ⟨⟨?_, c3.2⟩, by omega⟩
            rw [w_Tn, w_nx2, if_neg (by have := z.1; omega), if_pos z.1, if_pos z.2, if_neg c3.1]
          · rw [if_neg (by omega)]
end
