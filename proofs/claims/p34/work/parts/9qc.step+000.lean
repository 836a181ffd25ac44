section WMM
variable {M : EM} {c : Int} {i : Nat}
theorem w_M_o {id : Nat} (h : id < 162 ∨ 169 < id) : w_M M c id i = M id i := by
  unfold w_M w_M0 w_M1 w_M2 w_M3 w_M4 w_M5 w_M6
  have h2 : id ≠ 162 := by omega
  have h3 : id ≠ 163 := by omega
  have h4 : id ≠ 164 := by omega
  have h5 : id ≠ 165 := by omega
  have h6 : id ≠ 166 := by omega
  have h7 : id ≠ 167 := by omega
  have h8 : id ≠ 168 := by omega
  have h9 : id ≠ 169 := by omega
  (repeat' split) <;> simp [e_up, h2, h3, h4, h5, h6, h7, h8, h9]
theorem w_M_01 (h : i < 2) : w_M M c 162 i = M 162 i := by
  unfold w_M w_M0 w_M1 w_M2 w_M3 w_M4 w_M5 w_M6
  have h2 : i ≠ 2 := by omega
  have h3 : i ≠ 3 := by omega
  have h4 : i ≠ 4 := by omega
  have h5 : i ≠ 5 := by omega
  have h6 : i ≠ 6 := by omega
  have h7 : i ≠ 7 := by omega
  have h8 : i ≠ 8 := by omega
  (repeat' split) <;> simp [e_up, h2, h3, h4, h5, h6, h7, h8]
theorem w_M_f (hi : 2 ≤ i ∧ i ≤ 8) : w_M M c 162 i = w_nx (M 162) c i := by
  have hi' : i = 2 ∨ i = 3 ∨ i = 4 ∨ i = 5 ∨ i = 6 ∨ i = 7 ∨ i = 8 := by omega
  unfold w_M w_M0 w_M1 w_M2 w_M3 w_M4 w_M5 w_M6 w_nx
  by_cases q0 : M 162 2 = 0
  · rw [if_pos q0, if_pos q0]
    rcases hi' with rfl | rfl | rfl | rfl | rfl | rfl | rfl <;> simp [e_up]
  rw [if_neg q0, if_neg q0]
  by_cases q1 : M 162 2 = 1
  · rw [if_pos q1, if_pos q1]
    by_cases q2 : 48 ≤ c ∧ c ≤ 57
    · rw [if_pos q2, if_pos q2]
      have e : (c - 48 = 0) = (c = 48) := by apply propext; omega
      rcases hi' with rfl | rfl | rfl | rfl | rfl | rfl | rfl <;> simp [e_up, e]
    · rw [if_neg q2, if_neg q2]
      rcases hi' with rfl | rfl | rfl | rfl | rfl | rfl | rfl <;> simp [e_up]
  rw [if_neg q1, if_neg q1]
  by_cases q2 : M 162 2 = 2 ∧ 48 ≤ c ∧ c ≤ 57
  · rw [if_pos q2, if_pos q2]
    rcases hi' with rfl | rfl | rfl | rfl | rfl | rfl | rfl <;> simp [e_up]
  rw [if_neg q2, if_neg q2]
  by_cases q3 : c = 47
  · rw [if_pos q3, if_pos q3]
    rcases hi' with rfl | rfl | rfl | rfl | rfl | rfl | rfl <;> simp [e_up]
  rw [if_neg q3, if_neg q3]
  by_cases q4 : c = 93
  · rw [if_pos q4, if_pos q4]
    rcases hi' with rfl | rfl | rfl | rfl | rfl | rfl | rfl <;> simp [e_up]
  rw [if_neg q4, if_neg q4]
  by_cases q5 : c = 32
  · rw [if_pos q5, if_pos q5]
    by_cases q6 : M 162 5 = 0
    · rw [if_pos q6]
      rcases hi' with rfl | rfl | rfl | rfl | rfl | rfl | rfl <;> simp [e_up, q6]
    · rw [if_neg q6]
      rcases hi' with rfl | rfl | rfl | rfl | rfl | rfl | rfl <;> simp [e_up, q6]
  rw [if_neg q5, if_neg q5]
  rcases hi' with rfl | rfl | rfl | rfl | rfl | rfl | rfl <;> simp [e_up]
theorem w_M_63 : w_M M c 163 i = if M 162 2 = 0 ∧ i = (M 162 7).toNat then M 162 1 else M 163 i := by
  unfold w_M w_M0 w_M1 w_M2 w_M3 w_M4 w_M5 w_M6
  by_cases q0 : M 162 2 = 0
  · rw [if_pos q0]
    simp [e_up, q0]
  · rw [if_neg q0]
    simp only [q0, false_and, if_false]
    (repeat' split) <;> simp [e_up]
theorem w_M_64 : w_M M c 164 i = if M 162 2 = 0 ∧ i = (M 162 7).toNat then c else M 164 i := by
  unfold w_M w_M0 w_M1 w_M2 w_M3 w_M4 w_M5 w_M6
  by_cases q0 : M 162 2 = 0
  · rw [if_pos q0]
    simp [e_up, q0]
  · rw [if_neg q0]
    simp only [q0, false_and, if_false]
    (repeat' split) <;> simp [e_up]
theorem w_M_5 (hq : M 162 2 ≠ 0 ∧ M 162 2 ≠ 1 ∧ c = 59) : w_M M c = w_M5 M := by
  obtain ⟨a, b, d⟩ := hq
  unfold w_M
  rw [if_neg a, if_neg b, if_neg (by omega), if_neg (by omega), if_neg (by omega), if_neg (by omega)]
theorem w_M_65 (h : w_ok (M 162) c) : w_M M c 165 i = if (M 162 2 ≠ 0 ∧ M 162 2 ≠ 1 ∧ c = 59) ∧ i = (M 162 7 + 1).toNat then M 162 8 else M 165 i := by
  by_cases q : M 162 2 ≠ 0 ∧ M 162 2 ≠ 1 ∧ c = 59
  · rw [w_M_5 q]
    unfold w_M5
    simp [e_up, q]
  · rw [if_neg (fun e => q e.1)]
    unfold w_ok at h
    unfold w_M w_M0 w_M1 w_M2 w_M3 w_M4 w_M6
    by_cases q0 : M 162 2 = 0
    · rw [if_pos q0]; simp [e_up]
    rw [if_neg q0] at h ⊢
    by_cases q1 : M 162 2 = 1
    · rw [if_pos q1]
      split <;> simp [e_up]
    rw [if_neg q1] at h ⊢
    by_cases q2 : M 162 2 = 2 ∧ 48 ≤ c ∧ c ≤ 57
    · rw [if_pos q2]; simp [e_up]
    rw [if_neg q2]
    by_cases q3 : c = 47
    · rw [if_pos q3]; simp [e_up]
    rw [if_neg q3]
    by_cases q4 : c = 93
    · rw [if_pos q4]; simp [e_up]
    rw [if_neg q4]
    by_cases q5 : c = 32
    · rw [if_pos q5]; split <;> simp [e_up]
    exact absurd ⟨q0, q1, by omega⟩ q
theorem w_M_66 (h : w_ok (M 162) c) : w_M M c 166 i = if (M 162 2 ≠ 0 ∧ M 162 2 ≠ 1 ∧ c = 59) ∧ i = (M 162 7).toNat then M 162 6 else M 166 i := by
  by_cases q : M 162 2 ≠ 0 ∧ M 162 2 ≠ 1 ∧ c = 59
  · rw [w_M_5 q]
    unfold w_M5
    simp [e_up, q]
  · rw [if_neg (fun e => q e.1)]
    unfold w_ok at h
    unfold w_M w_M0 w_M1 w_M2 w_M3 w_M4 w_M6
    by_cases q0 : M 162 2 = 0
    · rw [if_pos q0]; simp [e_up]
    rw [if_neg q0] at h ⊢
    by_cases q1 : M 162 2 = 1
    · rw [if_pos q1]
      split <;> simp [e_up]
    rw [if_neg q1] at h ⊢
    by_cases q2 : M 162 2 = 2 ∧ 48 ≤ c ∧ c ≤ 57
    · rw [if_pos q2]; simp [e_up]
    rw [if_neg q2]
    by_cases q3 : c = 47
    · rw [if_pos q3]; simp [e_up]
    rw [if_neg q3]
    by_cases q4 : c = 93
    · rw [if_pos q4]; simp [e_up]
    rw [if_neg q4]
    by_cases q5 : c = 32
    · rw [if_pos q5]; split <;> simp [e_up]
    exact absurd ⟨q0, q1, by omega⟩ q
theorem w_M_67 : w_M M c 167 i = if (M 162 2 = 1 ∧ 48 ≤ c ∧ c ≤ 57) ∧ i = (M 162 8).toNat then c - 48 else if (M 162 2 = 2 ∧ 48 ≤ c ∧ c ≤ 57) ∧ i = (M 162 8 - 1).toNat then 10 * M 167 (M 162 8 - 1).toNat + c - 48 else M 167 i := by
  unfold w_M w_M0 w_M1 w_M2 w_M3 w_M4 w_M5 w_M6
  by_cases q0 : M 162 2 = 0
  · rw [if_pos q0]
    simp [e_up, q0]
  rw [if_neg q0]
  by_cases q1 : M 162 2 = 1
  · rw [if_pos q1]
    by_cases q2 : 48 ≤ c ∧ c ≤ 57
    · rw [if_pos q2]
      simp [e_up, q1, q2]
    · rw [if_neg q2]
      simp [e_up, q1, q2]
  rw [if_neg q1]
  by_cases q2 : M 162 2 = 2 ∧ 48 ≤ c ∧ c ≤ 57
  · rw [if_pos q2]
    simp [e_up, q2]
  rw [if_neg q2]
  simp only [q1, q2, false_and, if_false]
  (repeat' split) <;> simp [e_up]
theorem w_M_68 : w_M M c 168 i = if (M 162 2 = 1 ∧ 48 ≤ c ∧ c ≤ 57) ∧ i = (M 162 8).toNat then M 162 6 - 1 else M 168 i := by
  unfold w_M w_M0 w_M1 w_M2 w_M3 w_M4 w_M5 w_M6
  by_cases q0 : M 162 2 = 0
  · rw [if_pos q0]
    simp [e_up, q0]
  rw [if_neg q0]
  by_cases q1 : M 162 2 = 1
  · rw [if_pos q1]
    by_cases q2 : 48 ≤ c ∧ c ≤ 57
    · rw [if_pos q2]
      simp [e_up, q1, q2]
    · rw [if_neg q2]
      simp [e_up, q1, q2]
  rw [if_neg q1]
  simp only [q1, false_and, if_false]
  (repeat' split) <;> simp [e_up]
end WMM
