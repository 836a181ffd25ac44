section WMM
variable {M : EM} {c : Int} {i : Nat}
theorem w_M_69 : w_M M c 169 i = if (M 162 2 = 1 ∧ 48 ≤ c ∧ c ≤ 57) ∧ i = (M 162 8).toNat then M 162 5 else M 169 i := by
  unfold w_M w_M0 w_M1 w_M2 w_M3 w_M4 w_M5 w_M6
  by_cases q0 : M 162 2 = 0
  · rw [if_pos q0]
    simp [e_up, q0]
  rw [if_neg q0]
  by_cases q1 : M 162 2 = 1
  · rw [if_pos q1]
    by_cases q2 : 48 ≤ c ∧ c ≤ 57
    · rw [if_pos q2]
      simp [e_up, q1, q2]
    · rw [if_neg q2]
      simp [e_up, q1, q2]
  rw [if_neg q1]
  simp only [q1, false_and, if_false]
  (repeat' split) <;> simp [e_up]
end WMM
