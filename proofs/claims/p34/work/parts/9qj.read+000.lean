section WTP
variable {b : Nat → Int} {n k j : Nat}
theorem w_pos (hA : w_A b k) : ∀ s : Int, 0 ≤ s → s ≤ w_T b k 7 → ∃ j, j ≤ k ∧ w_T b j 2 = 0 ∧ w_T b j 7 = s := by
  induction k with
  | zero =>
    intro s h0 h1
    have e : w_T b 0 7 = 0 := rfl
    exact ⟨0, Nat.le_refl _, rfl, by omega⟩
  | succ k ih =>
    intro s h0 h1
    obtain ⟨a1, a2⟩ := w_A1 hA
    by_cases q : w_T b k 7 ≥ s
    · obtain ⟨j, j1, j2, j3⟩ := ih a1 s h0 q
      exact ⟨j, by omega, j2, j3⟩
    · have e7 := w_nx7 a2
      rw [← w_Tn] at e7
      by_cases c : w_T b k 2 ≠ 0 ∧ w_T b k 2 ≠ 1 ∧ b k = 59
      · rw [if_pos c] at e7
        refine ⟨k + 1, Nat.le_refl _, ?_, by omega⟩
        rw [w_Tn, w_nx2, if_neg c.1, if_neg c.2.1, if_neg (by omega), if_neg (by omega), if_neg (by omega), if_neg (by omega)]
      · rw [if_neg c] at e7
        omega
/-- within a STATEMENT: its sign stays; of a BOX just one number -/
theorem w_in3 (hj : w_T b j 2 = 0) : ∀ d, w_A b (j + (d + 1)) → (∀ i, i < d → w_T b (j + (i + 1)) 2 ≠ 0) → w_T b (j + (d + 1)) 3 = b j := by
  intro d
  induction d with
  | zero =>
    intro _ _
    show w_T b (j + 1) 3 = _
    rw [w_Tn, w_nx3, if_pos hj]
  | succ d ih =>
    intro hA hz
    have i := ih (w_Al hA (by omega)) (fun i hi => hz i (by omega))
    show w_T b (j + (d + 1) + 1) 3 = _
    rw [w_Tn, w_nx3, if_neg (hz d (by omega))]
    exact i
theorem w_inb (hj : w_T b j 2 = 0) (hb : b j = 98) : ∀ d, w_A b (j + (d + 1)) → (∀ i, i < d → w_T b (j + (i + 1)) 2 ≠ 0) → (w_T b (j + (d + 1)) 5 = 0) ∧ ((w_T b (j + (d + 1)) 2 = 1 ∧ w_T b (j + (d + 1)) 8 = w_T b j 8) ∨ (w_T b (j + (d + 1)) 2 ≠ 1 ∧ w_T b (j + (d + 1)) 8 = w_T b j 8 + 1)) := by
  intro d
  induction d with
  | zero =>
    intro _ _
    show w_T b (j + 1) 5 = 0 ∧ ((w_T b (j + 1) 2 = 1 ∧ w_T b (j + 1) 8 = w_T b j 8) ∨ (w_T b (j + 1) 2 ≠ 1 ∧ w_T b (j + 1) 8 = w_T b j 8 + 1))
    rw [w_Tn, w_nx2, w_nx5, w_nx8, if_pos hj, if_pos hj, if_neg (by omega)]
    exact ⟨rfl, Or.inl ⟨rfl, rfl⟩⟩
  | succ d ih =>
    intro hA hz
    have hA1 : w_A b (j + (d + 1) + 1) := hA
    have a2 := (w_A1 hA1).2
    have i := ih (w_Al hA (by omega)) (fun i hi => hz i (by omega))
    have z := hz d (by omega)
    have e3 := w_in3 hj d (w_Al hA (by omega)) (fun i hi => hz i (by omega))
    rw [hb] at e3
    show w_T b (j + (d + 1) + 1) 5 = 0 ∧ ((w_T b (j + (d + 1) + 1) 2 = 1 ∧ w_T b (j + (d + 1) + 1) 8 = w_T b j 8) ∨ (w_T b (j + (d + 1) + 1) 2 ≠ 1 ∧ w_T b (j + (d + 1) + 1) 8 = w_T b j 8 + 1))
    have e2 := w_nx2 (s := w_T b (j + (d + 1))) (c := b (j + (d + 1)))
    have e5 := w_nx5 (s := w_T b (j + (d + 1))) (c := b (j + (d + 1)))
    have e8 := w_nx8 (s := w_T b (j + (d + 1))) (c := b (j + (d + 1)))
    rw [← w_Tn] at e2 e5 e8
    generalize w_T b (j + (d + 1) + 1) = t at e2 e5 e8 ⊢
    generalize w_T b (j + (d + 1)) = s at i z e3 a2 e2 e5 e8
    generalize w_T b j 8 = v at i ⊢
    generalize b (j + (d + 1)) = c at a2 e2 e5 e8
    clear ih hA1 hA hz hj hb
    unfold w_ok at a2
    obtain ⟨i5, i⟩ := i
    rw [if_neg z] at a2 e2 e5
    by_cases q1 : s 2 = 1
    · rw [if_pos q1] at a2 e2 e5
      have dg : 48 ≤ c ∧ c ≤ 57 := by omega
      rw [if_pos dg] at e2 e5
      rw [if_pos ⟨q1, dg⟩] at e8
      by_cases q3 : c = 48
      · rw [if_pos q3] at e2; omega
      · rw [if_neg q3] at e2; omega
    · rw [if_neg q1] at a2 e2 e5
      rw [if_neg (fun e => q1 e.1)] at e8
      by_cases q2 : s 2 = 2 ∧ 48 ≤ c ∧ c ≤ 57
      · rw [if_pos q2] at e2 e5
        omega
      · have c59 : c = 59 := by omega
        rw [if_neg q2, if_neg (by omega), if_neg (by omega), if_neg (by omega)] at e2
        rw [if_neg q2, if_neg (by omega)] at e5
        omega
/-- the next place where a STATEMENT may begin -/
theorem w_nxt (hA : w_A b k) (hj : w_T b j 2 = 0) (hjk : j < k) (hk : w_T b k 2 = 0) (h7 : w_T b k 7 = w_T b j 7 + 1) : ∀ i, j < i → i < k → w_T b i 2 ≠ 0 := by
  intro i h1 h2 hi
  have a := w_S7 (w_Al hA (show i ≤ k by omega)) h1 hi
  have c := w_S7 hA h2 hk
  omega
end WTP
