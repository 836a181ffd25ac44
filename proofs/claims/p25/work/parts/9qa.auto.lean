/-! a TEXT's shape, byte by byte: what is expected (2), which statement (3), behind a push (4), under a diode (5), groups (6), statements (7), numbers (8) -/
def w_ok (s : Nat → Int) (c : Int) : Prop :=
  if s 2 = 0 then c = 99 ∨ c = 114 ∨ c = 102 ∨ c = 98
  else if s 2 = 1 then (48 ≤ c ∧ c ≤ 57) ∨ (c = 91 ∧ s 3 = 114 ∧ s 5 = 0)
  else (s 2 = 2 ∧ 48 ≤ c ∧ c ≤ 57) ∨ (c = 47 ∧ s 3 = 99 ∧ s 4 = 0) ∨ (c = 93 ∧ s 5 ≠ 0) ∨ (c = 32 ∧ s 3 ≠ 98 ∧ ¬ (s 3 = 99 ∧ s 4 = 0)) ∨ (c = 59 ∧ s 5 = 0 ∧ ¬ (s 3 = 99 ∧ s 4 = 0))
def w_nx (s : Nat → Int) (c : Int) : Nat → Int :=
  if s 2 = 0 then fun j => if j = 2 then 1 else if j = 3 then c else if j = 4 then 0 else if j = 5 then 0 else if j = 6 then 1 else s j
  else if s 2 = 1 then (if 48 ≤ c ∧ c ≤ 57 then fun j => if j = 8 then s 8 + 1 else if j = 2 then (if c = 48 then 3 else 2) else s j else fun j => if j = 5 then 1 else s j)
  else if s 2 = 2 ∧ 48 ≤ c ∧ c ≤ 57 then fun j => if j = 2 then 3 else s j
  else if c = 47 then fun j => if j = 4 then 1 else if j = 2 then 1 else s j
  else if c = 93 then fun j => if j = 5 then 0 else if j = 2 then 3 else s j
  else if c = 32 then fun j => if j = 6 then (if s 5 = 0 then s 6 + 1 else s 6) else if j = 4 then 0 else if j = 2 then 1 else s j
  else fun j => if j = 7 then s 7 + 1 else if j = 2 then 0 else s j
section WTX
variable {s : Nat → Int} {c : Int}
theorem w_nx2 : w_nx s c 2 = if s 2 = 0 then 1 else if s 2 = 1 then (if 48 ≤ c ∧ c ≤ 57 then (if c = 48 then 3 else 2) else 1) else if s 2 = 2 ∧ 48 ≤ c ∧ c ≤ 57 then 3 else if c = 47 then 1 else if c = 93 then 3 else if c = 32 then 1 else 0 := by
  unfold w_nx
  by_cases h0 : s 2 = 0
  · rw [if_pos h0, if_pos h0]; rfl
  rw [if_neg h0, if_neg h0]
  by_cases h1 : s 2 = 1
  · rw [if_pos h1, if_pos h1]
    by_cases h2 : 48 ≤ c ∧ c ≤ 57
    · rw [if_pos h2, if_pos h2]; rfl
    · rw [if_neg h2, if_neg h2]; exact h1
  rw [if_neg h1, if_neg h1]
  by_cases h2 : s 2 = 2 ∧ 48 ≤ c ∧ c ≤ 57
  · rw [if_pos h2, if_pos h2]; rfl
  rw [if_neg h2, if_neg h2]
  by_cases h3 : c = 47
  · rw [if_pos h3, if_pos h3]; rfl
  rw [if_neg h3, if_neg h3]
  by_cases h4 : c = 93
  · rw [if_pos h4, if_pos h4]; rfl
  rw [if_neg h4, if_neg h4]
  by_cases h5 : c = 32
  · rw [if_pos h5, if_pos h5]; rfl
  rw [if_neg h5, if_neg h5]; rfl
theorem w_nx3 : w_nx s c 3 = if s 2 = 0 then c else s 3 := by
  unfold w_nx
  split
  · rfl
  · split
    · split <;> rfl
    · split
      · rfl
      · split
        · rfl
        · split
          · rfl
          · split <;> rfl
theorem w_nx4 : w_nx s c 4 = if s 2 = 0 then 0 else if s 2 = 1 then s 4 else if s 2 = 2 ∧ 48 ≤ c ∧ c ≤ 57 then s 4 else if c = 47 then 1 else if c = 32 then 0 else s 4 := by
  unfold w_nx
  by_cases h0 : s 2 = 0
  · rw [if_pos h0, if_pos h0]; rfl
  rw [if_neg h0, if_neg h0]
  by_cases h1 : s 2 = 1
  · rw [if_pos h1, if_pos h1]
    split <;> rfl
  rw [if_neg h1, if_neg h1]
  by_cases h2 : s 2 = 2 ∧ 48 ≤ c ∧ c ≤ 57
  · rw [if_pos h2, if_pos h2]; rfl
  rw [if_neg h2, if_neg h2]
  by_cases h3 : c = 47
  · rw [if_pos h3, if_pos h3]; rfl
  rw [if_neg h3, if_neg h3]
  by_cases h4 : c = 93
  · rw [if_pos h4]; exact (if_neg (by omega)).symm
  rw [if_neg h4]
  by_cases h5 : c = 32
  · rw [if_pos h5, if_pos h5]; rfl
  rw [if_neg h5, if_neg h5]; rfl
theorem w_nx5 : w_nx s c 5 = if s 2 = 0 then 0 else if s 2 = 1 then (if 48 ≤ c ∧ c ≤ 57 then s 5 else 1) else if s 2 = 2 ∧ 48 ≤ c ∧ c ≤ 57 then s 5 else if c = 93 then 0 else s 5 := by
  unfold w_nx
  by_cases h0 : s 2 = 0
  · rw [if_pos h0, if_pos h0]; rfl
  rw [if_neg h0, if_neg h0]
  by_cases h1 : s 2 = 1
  · rw [if_pos h1, if_pos h1]
    by_cases h2 : 48 ≤ c ∧ c ≤ 57
    · rw [if_pos h2, if_pos h2]; rfl
    · rw [if_neg h2, if_neg h2]; rfl
  rw [if_neg h1, if_neg h1]
  by_cases h2 : s 2 = 2 ∧ 48 ≤ c ∧ c ≤ 57
  · rw [if_pos h2, if_pos h2]; rfl
  rw [if_neg h2, if_neg h2]
  by_cases h3 : c = 47
  · rw [if_pos h3]; exact (if_neg (by omega)).symm
  rw [if_neg h3]
  by_cases h4 : c = 93
  · rw [if_pos h4, if_pos h4]; rfl
  rw [if_neg h4, if_neg h4]
  split <;> rfl
theorem w_nx6 : w_nx s c 6 = if s 2 = 0 then 1 else if s 2 = 1 then s 6 else if s 2 = 2 ∧ 48 ≤ c ∧ c ≤ 57 then s 6 else if c = 32 ∧ s 5 = 0 then s 6 + 1 else s 6 := by
  unfold w_nx
  by_cases h0 : s 2 = 0
  · rw [if_pos h0, if_pos h0]; rfl
  rw [if_neg h0, if_neg h0]
  by_cases h1 : s 2 = 1
  · rw [if_pos h1, if_pos h1]
    split <;> rfl
  rw [if_neg h1, if_neg h1]
  by_cases h2 : s 2 = 2 ∧ 48 ≤ c ∧ c ≤ 57
  · rw [if_pos h2, if_pos h2]; rfl
  rw [if_neg h2, if_neg h2]
  by_cases h3 : c = 47
  · rw [if_pos h3]; exact (if_neg (by omega)).symm
  rw [if_neg h3]
  by_cases h4 : c = 93
  · rw [if_pos h4]; exact (if_neg (by omega)).symm
  rw [if_neg h4]
  by_cases h5 : c = 32
  · rw [if_pos h5]
    by_cases h6 : s 5 = 0
    · refine Eq.trans ?_ (if_pos (c := c = 32 ∧ s 5 = 0) ⟨h5, h6⟩).symm
      exact if_pos (c := s 5 = 0) h6
    · refine Eq.trans ?_ (if_neg (c := c = 32 ∧ s 5 = 0) (fun e => h6 e.2)).symm
      exact if_neg (c := s 5 = 0) h6
  rw [if_neg h5]
  exact (if_neg (c := c = 32 ∧ s 5 = 0) (fun e => h5 e.1)).symm
theorem w_nx7 (h : w_ok s c) : w_nx s c 7 = if s 2 ≠ 0 ∧ s 2 ≠ 1 ∧ c = 59 then s 7 + 1 else s 7 := by
  unfold w_nx
  by_cases h0 : s 2 = 0
  · rw [if_pos h0]; exact (if_neg (by omega)).symm
  rw [if_neg h0]
  by_cases h1 : s 2 = 1
  · rw [if_pos h1]
    refine Eq.trans ?_ (if_neg (by omega)).symm
    split <;> rfl
  rw [if_neg h1]
  by_cases h2 : s 2 = 2 ∧ 48 ≤ c ∧ c ≤ 57
  · rw [if_pos h2]; exact (if_neg (by omega)).symm
  rw [if_neg h2]
  by_cases h3 : c = 47
  · rw [if_pos h3]; exact (if_neg (by omega)).symm
  rw [if_neg h3]
  by_cases h4 : c = 93
  · rw [if_pos h4]; exact (if_neg (by omega)).symm
  rw [if_neg h4]
  by_cases h5 : c = 32
  · rw [if_pos h5]; exact (if_neg (by omega)).symm
  rw [if_neg h5]
  unfold w_ok at h
  rw [if_neg h0, if_neg h1] at h
  exact (if_pos (c := s 2 ≠ 0 ∧ s 2 ≠ 1 ∧ c = 59) ⟨h0, h1, by omega⟩).symm
theorem w_nx8 : w_nx s c 8 = if s 2 = 1 ∧ 48 ≤ c ∧ c ≤ 57 then s 8 + 1 else s 8 := by
  unfold w_nx
  by_cases h0 : s 2 = 0
  · rw [if_pos h0]; exact (if_neg (by omega)).symm
  rw [if_neg h0]
  by_cases h1 : s 2 = 1
  · rw [if_pos h1]
    by_cases h2 : 48 ≤ c ∧ c ≤ 57
    · rw [if_pos h2]; exact (if_pos (c := s 2 = 1 ∧ 48 ≤ c ∧ c ≤ 57) ⟨h1, h2⟩).symm
    · rw [if_neg h2]; exact (if_neg (c := s 2 = 1 ∧ 48 ≤ c ∧ c ≤ 57) (fun e => h2 e.2)).symm
  rw [if_neg h1]
  refine Eq.trans ?_ (if_neg (c := s 2 = 1 ∧ 48 ≤ c ∧ c ≤ 57) (fun e => h1 e.1)).symm
  split
  · rfl
  · split
    · rfl
    · split
      · rfl
      · split <;> rfl
end WTX
def w_T (b : Nat → Int) : Nat → Nat → Int
  | 0 => fun _ => 0
  | k + 1 => w_nx (w_T b k) (b k)
def w_A (b : Nat → Int) (k : Nat) : Prop := ∀ j, j < k → w_ok (w_T b j) (b j)
/-- the first place where it can't go on -/
def w_F (b : Nat → Int) (n k : Nat) : Prop := w_A b k ∧ k ≤ n ∧ (k < n → ¬ w_ok (w_T b k) (b k)) ∧ (k = n → ¬ (w_T b n 2 = 0 ∧ 0 < w_T b n 7))
def w_N (b : Nat → Int) (k : Nat) : Prop := w_T b k 2 = 1 ∧ 48 ≤ b k ∧ b k ≤ 57
/-- the number that begins at k, in a text of n bytes -/
def w_v (b : Nat → Int) (n k : Nat) : Int := if b k ≠ 48 ∧ k + 1 < n ∧ 48 ≤ b (k + 1) ∧ b (k + 1) ≤ 57 then 10 * (b k - 48) + b (k + 1) - 48 else b k - 48
section WTT
variable {b : Nat → Int} {n k j : Nat}
theorem w_Tn (b : Nat → Int) (k : Nat) : w_T b (k + 1) = w_nx (w_T b k) (b k) := rfl
theorem w_A1 (h : w_A b (k + 1)) : w_A b k ∧ w_ok (w_T b k) (b k) := ⟨fun j hj => h j (by omega), h k (by omega)⟩
theorem w_As (h : w_A b k) (q : w_ok (w_T b k) (b k)) : w_A b (k + 1) := by
  intro j hj
  by_cases e : j = k
  · rw [e]; exact q
  · exact h j (by omega)
theorem w_Al (h : w_A b k) (hj : j ≤ k) : w_A b j := fun i hi => h i (by omega)
theorem w_F_u (h : w_F b n k) (h' : w_F b n j) : k = j := by
  obtain ⟨a1, a2, a3, a4⟩ := h
  obtain ⟨b1, b2, b3, b4⟩ := h'
  rcases Nat.lt_trichotomy k j with h | h | h
  · exact absurd (b1 k h) (a3 (by omega))
  · exact h
  · exact absurd (a1 j h) (b3 (by omega))
theorem w_F_n (h : w_F b n k) (hA : w_A b n) (h1 : w_T b n 2 = 0 ∧ 0 < w_T b n 7) : False := by
  obtain ⟨a1, a2, a3, a4⟩ := h
  by_cases e : k = n
  · exact a4 e h1
  · exact a3 (by omega) (hA k (by omega))
/-- what holds of every state -/
def w_I (s : Nat → Int) (k : Nat) : Prop := 0 ≤ s 2 ∧ s 2 ≤ 3 ∧ 0 ≤ s 7 ∧ s 7 ≤ k ∧ 0 ≤ s 8 ∧ s 8 ≤ k ∧ (s 5 = 0 ∨ s 5 = 1) ∧ 0 ≤ s 6 ∧ s 6 ≤ k + 1 ∧ (s 2 ≠ 0 → 1 ≤ s 6) ∧ (s 2 = 2 → 1 ≤ s 8)
theorem w_Ii (h : w_A b k) : w_I (w_T b k) k := by
  induction k with
  | zero =>
    have e : ∀ j, w_T b 0 j = 0 := fun _ => rfl
    unfold w_I
    rw [e, e, e, e, e]
    omega
  | succ k ih =>
    obtain ⟨h1, h2⟩ := w_A1 h
    have i := ih h1
    rw [w_Tn]
    generalize w_T b k = s at i h2
    generalize b k = c at h2
    have e2 := w_nx2 (s := s) (c := c)
    have e5 := w_nx5 (s := s) (c := c)
    have e6 := w_nx6 (s := s) (c := c)
    have e7 := w_nx7 h2
    have e8 := w_nx8 (s := s) (c := c)
    unfold w_I at i ⊢
    unfold w_ok at h2
    generalize w_nx s c = t at *
    by_cases h0 : s 2 = 0
    · simp only [h0, if_true] at e2 e5 e6 e7 e8 h2
      simp at e7 e8
      omega
    · by_cases g1 : s 2 = 1
      · simp only [g1] at e2 e5 e6 e7 e8 h2
        simp at e2 e5 e6 e7 e8 h2
        by_cases g2 : 48 ≤ c ∧ c ≤ 57
        · simp only [g2, and_self, if_true] at e2 e5 e8
          by_cases g3 : c = 48
          · rw [if_pos g3] at e2; omega
          · rw [if_neg g3] at e2; omega
        · rw [if_neg g2] at e2 e5 e8; omega
      · rw [if_neg h0, if_neg g1] at e2 e5 e6 h2
        rw [if_neg (fun e => g1 e.1)] at e8
        by_cases g2 : s 2 = 2 ∧ 48 ≤ c ∧ c ≤ 57
        · rw [if_pos g2] at e2 e5 e6
          rw [if_neg (by omega)] at e7
          omega
        · rw [if_neg g2] at e2 e5 e6
          by_cases g3 : c = 47
          · rw [if_pos g3] at e2
            rw [if_neg (by omega)] at e5 e6 e7
            omega
          · rw [if_neg g3] at e2
            by_cases g4 : c = 93
            · rw [if_pos g4] at e2 e5
              rw [if_neg (by omega)] at e6 e7
              omega
            · rw [if_neg g4] at e2 e5
              by_cases g5 : c = 32
              · rw [if_pos g5] at e2
                rw [if_neg (by omega)] at e7
                by_cases g6 : s 5 = 0
                · rw [if_pos ⟨g5, g6⟩] at e6; omega
                · rw [if_neg (fun e => g6 e.2)] at e6; omega
              · rw [if_neg g5] at e2
                rw [if_pos (by omega)] at e7
                rw [if_neg (fun e => g5 e.1)] at e6
                omega
/-- numbers and statements never go back -/
theorem w_m8 (hk : k ≤ j) : w_T b k 8 ≤ w_T b j 8 := by
  induction j with
  | zero => rw [show k = 0 by omega]; exact Int.le_refl _
  | succ j ih =>
    by_cases e : k = j + 1
    · rw [e]; exact Int.le_refl _
    · have i := ih (by omega)
      have e8 := w_nx8 (s := w_T b j) (c := b j)
      rw [w_Tn]
      split at e8 <;> omega
theorem w_n8 (h : w_N b k) : w_T b (k + 1) 8 = w_T b k 8 + 1 := by
  rw [w_Tn, w_nx8, if_pos ⟨h.1, h.2⟩]
theorem w_N8 (h : w_N b k) (hk : k < j) : w_T b k 8 < w_T b j 8 := by
  have := w_m8 (b := b) (k := k + 1) (j := j) (by omega)
  rw [w_n8 h] at this
  omega
theorem w_m7 (hA : w_A b j) (hk : k ≤ j) : w_T b k 7 ≤ w_T b j 7 := by
  induction j with
  | zero => rw [show k = 0 by omega]; exact Int.le_refl _
  | succ j ih =>
    by_cases e : k = j + 1
    · rw [e]; exact Int.le_refl _
    · obtain ⟨h1, h2⟩ := w_A1 hA
      have i := ih h1 (by omega)
      have e7 := w_nx7 h2
      rw [w_Tn]
      split at e7 <;> omega
theorem w_S1 (h : w_T b k 2 = 0) : w_T b (k + 1) 2 = 1 := by rw [w_Tn, w_nx2, if_pos h]
theorem w_S7 (hA : w_A b j) (hk : k < j) (hj : w_T b j 2 = 0) : w_T b k 7 < w_T b j 7 := by
  obtain ⟨j, rfl⟩ : ∃ i, j = i + 1 := ⟨j - 1, by omega⟩
  obtain ⟨h1, h2⟩ := w_A1 hA
  have i := w_m7 h1 (show k ≤ j by omega)
  have e7 := w_nx7 h2
  have e2 := w_nx2 (s := w_T b j) (c := b j)
  have b2 := w_Ii h1
  rw [w_Tn] at hj ⊢
  rw [hj] at e2
  unfold w_I at b2
  unfold w_ok at h2
  generalize w_T b j = s at *
  generalize b j = c at *
  by_cases h0 : s 2 = 0
  · rw [if_pos h0] at e2; omega
  rw [if_neg h0] at e2 h2
  by_cases g1 : s 2 = 1
  · rw [if_pos g1] at e2
    split at e2
    · split at e2 <;> omega
    · omega
  rw [if_neg g1] at e2 h2
  by_cases g2 : s 2 = 2 ∧ 48 ≤ c ∧ c ≤ 57
  · rw [if_pos g2] at e2; omega
  rw [if_neg g2] at e2
  by_cases g3 : c = 47
  · rw [if_pos g3] at e2; omega
  rw [if_neg g3] at e2
  by_cases g4 : c = 93
  · rw [if_pos g4] at e2; omega
  rw [if_neg g4] at e2
  by_cases g5 : c = 32
  · rw [if_pos g5] at e2; omega
  rw [if_pos (by omega)] at e7
  omega
/-- a second digit may come: behind a number that began just now -/
theorem w_more (hA : w_A b k) (h : w_T b k 2 = 2) : ∃ j, k = j + 1 ∧ w_N b j ∧ b j ≠ 48 := by
  cases k with
  | zero => exact absurd (show (0 : Int) = 2 from h) (by decide)
  | succ j =>
    refine ⟨j, rfl, ?_⟩
    rw [w_Tn, w_nx2] at h
    unfold w_N
    by_cases h0 : w_T b j 2 = 0
    · rw [if_pos h0] at h; omega
    rw [if_neg h0] at h
    by_cases g1 : w_T b j 2 = 1
    · rw [if_pos g1] at h
      by_cases g2 : 48 ≤ b j ∧ b j ≤ 57
      · rw [if_pos g2] at h
        by_cases g3 : b j = 48
        · rw [if_pos g3] at h; omega
        · exact ⟨⟨g1, g2⟩, g3⟩
      · rw [if_neg g2] at h; omega
    rw [if_neg g1] at h
    by_cases g2 : w_T b j 2 = 2 ∧ 48 ≤ b j ∧ b j ≤ 57
    · rw [if_pos g2] at h; omega
    rw [if_neg g2] at h
    by_cases g3 : b j = 47
    · rw [if_pos g3] at h; omega
    rw [if_neg g3] at h
    by_cases g4 : b j = 93
    · rw [if_pos g4] at h; omega
    rw [if_neg g4] at h
    by_cases g5 : b j = 32
    · rw [if_pos g5] at h; omega
    rw [if_neg g5] at h; omega
end WTT
