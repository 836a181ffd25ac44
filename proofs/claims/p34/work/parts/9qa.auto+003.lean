section WTT
variable {b : Nat → Int} {n k j : Nat}
theorem w_Tn (b : Nat → Int) (k : Nat) : w_T b (k + 1) = w_nx (w_T b k) (b k) := rfl
theorem w_A1 (h : w_A b (k + 1)) : w_A b k ∧ w_ok (w_T b k) (b k) := ⟨fun j hj => h j (by omega), h k (by omega)⟩
theorem w_As (h : w_A b k) (q : w_ok (w_T b k) (b k)) : w_A b (k + 1) := by
  intro j hj
  by_cases e : j = k
  · rw [e]; exact q
  · exact h j (by omega)
theorem w_Al (h : w_A b k) (hj : j ≤ k) : w_A b j := fun i hi => h i (by omega)
theorem w_F_u (h : w_F b n k) (h' : w_F b n j) : k = j := by
  obtain ⟨a1, a2, a3, a4⟩ := h
  obtain ⟨b1, b2, b3, b4⟩ := h'
  rcases Nat.lt_trichotomy k j with h | h | h
  · exact absurd (b1 k h) (a3 (by omega))
  · exact h
  · exact absurd (a1 j h) (b3 (by omega))
theorem w_F_n (h : w_F b n k) (hA : w_A b n) (h1 : w_T b n 2 = 0 ∧ 0 < w_T b n 7) : False := by
  obtain ⟨a1, a2, a3, a4⟩ := h
  by_cases e : k = n
  · exact a4 e h1
  · exact a3 (by omega) (hA k (by omega))
/-- what holds of every state -/
def w_I (s : Nat → Int) (k : Nat) : Prop := 0 ≤ s 2 ∧ s 2 ≤ 3 ∧ 0 ≤ s 7 ∧ s 7 ≤ k ∧ 0 ≤ s 8 ∧ s 8 ≤ k ∧ (s 5 = 0 ∨ s 5 = 1) ∧ 0 ≤ s 6 ∧ s 6 ≤ k + 1 ∧ (s 2 ≠ 0 → 1 ≤ s 6) ∧ (s 2 = 2 → 1 ≤ s 8)
theorem w_Ii (h : w_A b k) : w_I (w_T b k) k := by
  induction k with
  | zero =>
    have e : ∀ j, w_T b 0 j = 0 := fun _ => rfl
    unfold w_I
    rw [e, e, e, e, e]
    omega
  | succ k ih =>
    obtain ⟨h1, h2⟩ := w_A1 h
    have i := ih h1
    rw [w_Tn]
    generalize w_T b k = s at i h2
    generalize b k = c at h2
    have e2 := w_nx2 (s := s) (c := c)
    have e5 := w_nx5 (s := s) (c := c)
    have e6 := w_nx6 (s := s) (c := c)
    have e7 := w_nx7 h2
    have e8 := w_nx8 (s := s) (c := c)
    unfold w_I at i ⊢
    unfold w_ok at h2
    generalize w_nx s c = t at *
    by_cases h0 : s 2 = 0
    · simp only [h0, if_true] at e2 e5 e6 e7 e8 h2
      simp at e7 e8
      omega
    · by_cases g1 : s 2 = 1
      · simp only [g1] at e2 e5 e6 e7 e8 h2
        simp at e2 e5 e6 e7 e8 h2
        by_cases g2 : 48 ≤ c ∧ c ≤ 57
        · simp only [g2, and_self, if_true] at e2 e5 e8
          by_cases g3 : c = 48
          · rw [if_pos g3] at e2; omega
          · rw [if_neg g3] at e2; omega
        · rw [if_neg g2] at e2 e5 e8; omega
      · rw [if_neg h0, if_neg g1] at e2 e5 e6 h2
        rw [if_neg (fun e => g1 e.1)] at e8
        by_cases g2 : s 2 = 2 ∧ 48 ≤ c ∧ c ≤ 57
        · rw [if_pos g2] at e2 e5 e6
          rw [if_neg (by omega)] at e7
          omega
        · rw [if_neg g2] at e2 e5 e6
          by_cases g3 : c = 47
          · rw [if_pos g3] at e2
            rw [if_neg (by omega)] at e5 e6 e7
            omega
          · rw [if_neg g3] at e2
            by_cases g4 : c = 93
            · rw [if_pos g4] at e2 e5
              rw [if_neg (by omega)] at e6 e7
              omega
            · rw [if_neg g4] at e2 e5
              by_cases g5 : c = 32
              · rw [if_pos g5] at e2
                rw [if_neg (by omega)] at e7
                by_cases g6 : s 5 = 0
                · rw [if_pos ⟨g5, g6⟩] at e6; omega
                · rw [if_neg (fun e => g6 e.2)] at e6; omega
              · rw [if_neg g5] at e2
                rw [if_pos (by omega)] at e7
                rw [if_neg (fun e => g5 e.1)] at e6
                omega
/-- numbers and statements never go back -/
theorem w_m8 (hk : k ≤ j) : w_T b k 8 ≤ w_T b j 8 := by
  induction j with
  | zero => rw [show k = 0 by omega]; exact Int.le_refl _
  | succ j ih =>
    by_cases e : k = j + 1
    · rw [e]; exact Int.le_refl _
    · have i := ih (by omega)
      have e8 := w_nx8 (s := w_T b j) (c := b j)
      rw [w_Tn]
      split at e8 <;> omega
theorem w_n8 (h : w_N b k) : w_T b (k + 1) 8 = w_T b k 8 + 1 := by
  rw [w_Tn, w_nx8, if_pos ⟨h.1, h.2⟩]
theorem w_N8 (h : w_N b k) (hk : k < j) : w_T b k 8 < w_T b j 8 := by
  have := w_m8 (b := b) (k := k + 1) (j := j) (by omega)
  rw [w_n8 h] at this
  omega
theorem w_m7 (hA : w_A b j) (hk : k ≤ j) : w_T b k 7 ≤ w_T b j 7 := by
  induction j with
  | zero => rw [show k = 0 by omega]; exact Int.le_refl _
  | succ j ih =>
    by_cases e : k = j + 1
    · rw [e]; exact Int.le_refl _
    · obtain ⟨h1, h2⟩ := w_A1 hA
      have i := ih h1 (by omega)
      have e7 := w_nx7 h2
      rw [w_Tn]
      split at e7 <;> omega
theorem w_S1 (h : w_T b k 2 = 0) : w_T b (k + 1) 2 = 1 := by rw [w_Tn, w_nx2, if_pos h]
theorem w_S7 (hA : w_A b j) (hk : k < j) (hj : w_T b j 2 = 0) : w_T b k 7 < w_T b j 7 := by
  obtain ⟨j, rfl⟩ : ∃ i, j = i + 1 := ⟨j - 1, by omega⟩
  obtain ⟨h1, h2⟩ := w_A1 hA
  have i := w_m7 h1 (show k ≤ j by omega)
  have e7 := w_nx7 h2
  have e2 := w_nx2 (s := w_T b j) (c := b j)
  have b2 := w_Ii h1
  rw [w_Tn] at hj ⊢
  rw [hj] at e2
  unfold w_I at b2
  unfold w_ok at h2
  generalize w_T b j = s at *
  generalize b j = c at *
  by_cases h0 : s 2 = 0
  · rw [if_pos h0] at e2; omega
  rw [if_neg h0] at e2 h2
  by_cases g1 : s 2 = 1
  · rw [if_pos g1] at e2
    split at e2
    · split at e2 <;> omega
    · omega
  rw [if_neg g1] at e2 h2
  by_cases g2 : s 2 = 2 ∧ 48 ≤ c ∧ c ≤ 57
  · rw [if_pos g2] at e2; omega
  rw [if_neg g2] at e2
  by_cases g3 : c = 47
  · rw [if_pos g3] at e2; omega
  rw [if_neg g3] at e2
  by_cases g4 : c = 93
  · rw [if_pos g4] at e2; omega
  rw [if_neg g4] at e2
  by_cases g5 : c = 32
  · rw [if_pos g5] at e2; omega
  rw [if_pos (by omega)] at e7
  omega
/-- a second digit may come: behind a number that began just now -/
theorem w_more (hA : w_A b k) (h : w_T b k 2 = 2) : ∃ j, k = j + 1 ∧ w_N b j ∧ b j ≠ 48 := by
  cases k with
  | zero => exact absurd (show (0 : Int) = 2 from h) (by decide)
  | succ j =>
    refine ⟨j, rfl, ?_⟩
    rw [w_Tn, w_nx2] at h
    unfold w_N
    by_cases h0 : w_T b j 2 = 0
    · rw [if_pos h0] at h; omega
    rw [if_neg h0] at h
    by_cases g1 : w_T b j 2 = 1
    · rw [if_pos g1] at h
      by_cases g2 : 48 ≤ b j ∧ b j ≤ 57
      · rw [if_pos g2] at h
        by_cases g3 : b j = 48
        · rw [if_pos g3] at h; omega
        · exact ⟨⟨g1, g2⟩, g3⟩
      · rw [if_neg g2] at h; omega
    rw [if_neg g1] at h
    by_cases g2 : w_T b j 2 = 2 ∧ 48 ≤ b j ∧ b j ≤ 57
    · rw [if_pos g2] at h; omega
    rw [if_neg g2] at h
    by_cases g3 : b j = 47
    · rw [if_pos g3] at h; omega
    rw [if_neg g3] at h
    by_cases g4 : b j = 93
    · rw [if_pos g4] at h; omega
    rw [if_neg g4] at h
    by_cases g5 : b j = 32
    · rw [if_pos g5] at h; omega
    rw [if_neg g5] at h; omega
end WTT
