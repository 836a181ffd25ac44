section WTX
variable {s : Nat → Int} {c : Int}
theorem w_nx2 : w_nx s c 2 = if s 2 = 0 then 1 else if s 2 = 1 then (if 48 ≤ c ∧ c ≤ 57 then (if c = 48 then 3 else 2) else 1) else if s 2 = 2 ∧ 48 ≤ c ∧ c ≤ 57 then 3 else if c = 47 then 1 else if c = 93 then 3 else if c = 32 then 1 else 0 := by
  unfold w_nx
  by_cases h0 : s 2 = 0
  · rw [if_pos h0, if_pos h0]; rfl
  rw [if_neg h0, if_neg h0]
  by_cases h1 : s 2 = 1
  · rw [if_pos h1, if_pos h1]
    by_cases h2 : 48 ≤ c ∧ c ≤ 57
    · rw [if_pos h2, if_pos h2]; rfl
    · rw [if_neg h2, if_neg h2]; exact h1
  rw [if_neg h1, if_neg h1]
  by_cases h2 : s 2 = 2 ∧ 48 ≤ c ∧ c ≤ 57
  · rw [if_pos h2, if_pos h2]; rfl
  rw [if_neg h2, if_neg h2]
  by_cases h3 : c = 47
  · rw [if_pos h3, if_pos h3]; rfl
  rw [if_neg h3, if_neg h3]
  by_cases h4 : c = 93
  · rw [if_pos h4, if_pos h4]; rfl
  rw [if_neg h4, if_neg h4]
  by_cases h5 : c = 32
  · rw [if_pos h5, if_pos h5]; rfl
  rw [if_neg h5, if_neg h5]; rfl
theorem w_nx3 : w_nx s c 3 = if s 2 = 0 then c else s 3 := by
  unfold w_nx
  split
  · rfl
  · split
    · split <;> rfl
    · split
      · rfl
      · split
        · rfl
        · split
          · rfl
          · split <;> rfl
theorem w_nx4 : w_nx s c 4 = if s 2 = 0 then 0 else if s 2 = 1 then s 4 else if s 2 = 2 ∧ 48 ≤ c ∧ c ≤ 57 then s 4 else if c = 47 then 1 else if c = 32 then 0 else s 4 := by
  unfold w_nx
  by_cases h0 : s 2 = 0
  · rw [if_pos h0, if_pos h0]; rfl
  rw [if_neg h0, if_neg h0]
  by_cases h1 : s 2 = 1
  · rw [if_pos h1, if_pos h1]
    split <;> rfl
  rw [if_neg h1, if_neg h1]
  by_cases h2 : s 2 = 2 ∧ 48 ≤ c ∧ c ≤ 57
  · rw [if_pos h2, if_pos h2]; rfl
  rw [if_neg h2, if_neg h2]
  by_cases h3 : c = 47
  · rw [if_pos h3, if_pos h3]; rfl
  rw [if_neg h3, if_neg h3]
  by_cases h4 : c = 93
  · rw [if_pos h4]; exact (if_neg (by omega)).symm
  rw [if_neg h4]
  by_cases h5 : c = 32
  · rw [if_pos h5, if_pos h5]; rfl
  rw [if_neg h5, if_neg h5]; rfl
theorem w_nx5 : w_nx s c 5 = if s 2 = 0 then 0 else if s 2 = 1 then (if 48 ≤ c ∧ c ≤ 57 then s 5 else 1) else if s 2 = 2 ∧ 48 ≤ c ∧ c ≤ 57 then s 5 else if c = 93 then 0 else s 5 := by
  unfold w_nx
  by_cases h0 : s 2 = 0
  · rw [if_pos h0, if_pos h0]; rfl
  rw [if_neg h0, if_neg h0]
  by_cases h1 : s 2 = 1
  · rw [if_pos h1, if_pos h1]
    by_cases h2 : 48 ≤ c ∧ c ≤ 57
    · rw [if_pos h2, if_pos h2]; rfl
    · rw [if_neg h2, if_neg h2]; rfl
  rw [if_neg h1, if_neg h1]
  by_cases h2 : s 2 = 2 ∧ 48 ≤ c ∧ c ≤ 57
  · rw [if_pos h2, if_pos h2]; rfl
  rw [if_neg h2, if_neg h2]
  by_cases h3 : c = 47
  · rw [if_pos h3]; exact (if_neg (by omega)).symm
  rw [if_neg h3]
  by_cases h4 : c = 93
  · rw [if_pos h4, if_pos h4]; rfl
  rw [if_neg h4, if_neg h4]
  split <;> rfl
theorem w_nx6 : w_nx s c 6 = if s 2 = 0 then 1 else if s 2 = 1 then s 6 else if s 2 = 2 ∧ 48 ≤ c ∧ c ≤ 57 then s 6 else if c = 32 ∧ s 5 = 0 then s 6 + 1 else s 6 := by
  unfold w_nx
  by_cases h0 : s 2 = 0
  · rw [if_pos h0, if_pos h0]; rfl
  rw [if_neg h0, if_neg h0]
  by_cases h1 : s 2 = 1
  · rw [if_pos h1, if_pos h1]
    split <;> rfl
  rw [if_neg h1, if_neg h1]
  by_cases h2 : s 2 = 2 ∧ 48 ≤ c ∧ c ≤ 57
  · rw [if_pos h2, if_pos h2]; rfl
  rw [if_neg h2, if_neg h2]
  by_cases h3 : c = 47
  · rw [if_pos h3]; exact (if_neg (by omega)).symm
  rw [if_neg h3]
  by_cases h4 : c = 93
  · rw [if_pos h4]; exact (if_neg (by omega)).symm
  rw [if_neg h4]
  by_cases h5 : c = 32
  · rw [if_pos h5]
    by_cases h6 : s 5 = 0
    · refine Eq.trans ?_ (if_pos (c := c = 32 ∧ s 5 = 0) ⟨h5, h6⟩).symm
      exact if_pos (c := s 5 = 0) h6
    · refine Eq.trans ?_ (if_neg (c := c = 32 ∧ s 5 = 0) (fun e => h6 e.2)).symm
      exact if_neg (c := s 5 = 0) h6
  rw [if_neg h5]
  exact (if_neg (c := c = 32 ∧ s 5 = 0) (fun e => h5 e.1)).symm
theorem w_nx7 (h : w_ok s c) : w_nx s c 7 = if s 2 ≠ 0 ∧ s 2 ≠ 1 ∧ c = 59 then s 7 + 1 else s 7 := by
  unfold w_nx
  by_cases h0 : s 2 = 0
  · rw [if_pos h0]; exact (if_neg (by omega)).symm
  rw [if_neg h0]
  by_cases h1 : s 2 = 1
  · rw [if_pos h1]
    refine Eq.trans ?_ (if_neg (by omega)).symm
    split <;> rfl
  rw [if_neg h1]
  by_cases h2 : s 2 = 2 ∧ 48 ≤ c ∧ c ≤ 57
  · rw [if_pos h2]; exact (if_neg (by omega)).symm
  rw [if_neg h2]
  by_cases h3 : c = 47
  · rw [if_pos h3]; exact (if_neg (by omega)).symm
  rw [if_neg h3]
  by_cases h4 : c = 93
  · rw [if_pos h4]; exact (if_neg (by omega)).symm
  rw [if_neg h4]
  by_cases h5 : c = 32
  · rw [if_pos h5]; exact (if_neg (by omega)).symm
  rw [if_neg h5]
  unfold w_ok at h
  rw [if_neg h0, if_neg h1] at h
  exact (if_pos (c := s 2 ≠ 0 ∧ s 2 ≠ 1 ∧ c = 59) ⟨h0, h1, by omega⟩).symm
theorem w_nx8 : w_nx s c 8 = if s 2 = 1 ∧ 48 ≤ c ∧ c ≤ 57 then s 8 + 1 else s 8 := by
  unfold w_nx
  by_cases h0 : s 2 = 0
  · rw [if_pos h0]; exact (if_neg (by omega)).symm
  rw [if_neg h0]
  by_cases h1 : s 2 = 1
  · rw [if_pos h1]
    by_cases h2 : 48 ≤ c ∧ c ≤ 57
    · rw [if_pos h2]; exact (if_pos (c := s 2 = 1 ∧ 48 ≤ c ∧ c ≤ 57) ⟨h1, h2⟩).symm
    · rw [if_neg h2]; exact (if_neg (c := s 2 = 1 ∧ 48 ≤ c ∧ c ≤ 57) (fun e => h2 e.2)).symm
  rw [if_neg h1]
  refine Eq.trans ?_ (if_neg (c := s 2 = 1 ∧ 48 ≤ c ∧ c ≤ 57) (fun e => h1 e.1)).symm
  split
  · rfl
  · split
    · rfl
    · split
      · rfl
      · split <;> rfl
end WTX
