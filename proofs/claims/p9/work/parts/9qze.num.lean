/-! numbers of a TEXT: 0 .. 99; a STATEMENT has one at least -/
section WNU
variable {b : Nat → Int} {n j k : Nat}
theorem w_mem8 : ∀ (n i : Nat), (i : Int) < w_T b n 8 → ∃ k, k < n ∧ w_N b k ∧ w_T b k 8 = i := by
  intro n
  induction n with
  | zero =>
    intro i hi
    have e : w_T b 0 8 = 0 := rfl
    omega
  | succ n ih =>
    intro i hi
    have e8 := w_nx8 (s := w_T b n) (c := b n)
    rw [← w_Tn] at e8
    by_cases q : w_T b n 2 = 1 ∧ 48 ≤ b n ∧ b n ≤ 57
    · rw [if_pos q] at e8
      rcases x_lt ((i : Int)) (w_T b n 8) with ⟨z, z_n⟩ | ⟨z, z_n⟩
      · obtain ⟨k, k1, k2⟩ := ih i z
        exact ⟨k, by omega, k2⟩
      · exact ⟨n, by omega, q, by omega⟩
    · rw [if_neg q] at e8
      obtain ⟨k, k1, k2⟩ := ih i (by omega)
      exact ⟨k, by omega, k2⟩
theorem w_vb (h : 48 ≤ b k ∧ b k ≤ 57) : 0 ≤ w_v b n k ∧ w_v b n k ≤ 99 := by
  unfold w_v
  by_cases q : b k ≠ 48 ∧ k + 1 < n ∧ 48 ≤ b (k + 1) ∧ b (k + 1) ≤ 57
  · rw [if_pos q]; omega
  · rw [if_neg q]; omega
theorem w_numb {M : EM} (hA : w_A b n) (hK : w_K b n M) {i : Nat} (hi : (i : Int) < w_T b n 8) : (0 ≤ M 167 i ∧ M 167 i ≤ 99) ∧ (M 169 i = 0 ∨ M 169 i = 1) := by
  obtain ⟨k, k1, k2, k3⟩ := w_mem8 n i hi
  obtain ⟨a1, a2, a3⟩ := hK.2.2.2 k k1 k2
  rw [k3, Int.toNat_natCast] at a1 a2 a3
  have I := w_Ii (w_Al hA (show k ≤ n by omega))
  unfold w_I at I
  rw [a1, a3]
  exact ⟨w_vb k2.2, I.2.2.2.2.2.2.1⟩
theorem w_in8 (hj : w_T b j 2 = 0) : ∀ d, w_A b (j + (d + 1)) → (∀ i, i < d → w_T b (j + (i + 1)) 2 ≠ 0) → w_T b (j + (d + 1)) 2 = 1 ∨ w_T b j 8 + 1 ≤ w_T b (j + (d + 1)) 8 := by
  intro d
  induction d with
  | zero =>
    intro _ _
    show w_T b (j + 1) 2 = 1 ∨ _
    rw [w_Tn, w_nx2, if_pos hj]
    exact Or.inl rfl
  | succ d ih =>
    intro hA hz
    have hA1 : w_A b (j + (d + 1) + 1) := hA
    have a2 := (w_A1 hA1).2
    have i := ih (w_Al hA (by omega)) (fun i hi => hz i (by omega))
    have z := hz d (by omega)
    have m := w_m8 (b := b) (show j ≤ j + (d + 1) by omega)
    show w_T b (j + (d + 1) + 1) 2 = 1 ∨ w_T b j 8 + 1 ≤ w_T b (j + (d + 1) + 1) 8
    have e2 := w_nx2 (s := w_T b (j + (d + 1))) (c := b (j + (d + 1)))
    have e8 := w_nx8 (s := w_T b (j + (d + 1))) (c := b (j + (d + 1)))
    rw [← w_Tn] at e2 e8
    generalize w_T b (j + (d + 1) + 1) = t at e2 e8 ⊢
    generalize w_T b (j + (d + 1)) = s at i z m a2 e2 e8
    generalize w_T b j 8 = v at i m ⊢
    generalize b (j + (d + 1)) = c at a2 e2 e8
    clear ih hA1 hA hz hj
    unfold w_ok at a2
    rw [if_neg z] at a2 e2
    by_cases q1 : s 2 = 1
    · rw [if_pos q1] at a2 e2
      by_cases dg : 48 ≤ c ∧ c ≤ 57
      · rw [if_pos ⟨q1, dg⟩] at e8
        exact Or.inr (by omega)
      · rw [if_neg dg] at e2
        exact Or.inl e2
    · rw [if_neg (fun e => q1 e.1)] at e8
      have := i.resolve_left q1
      exact Or.inr (by omega)
theorem w_ge1 (hA : w_A b k) (hj : w_T b j 2 = 0) (hjk : j < k) (hk : w_T b k 2 = 0) (h7 : w_T b k 7 = w_T b j 7 + 1) : w_T b j 8 + 1 ≤ w_T b k 8 := by
  have nn := w_nxt hA hj hjk hk h7
  have B := w_in8 hj (k - j - 1) (by rw [show j + (k - j - 1 + 1) = k by omega]; exact hA) (fun i hi => nn _ (by omega) (by omega))
  rw [show j + (k - j - 1 + 1) = k by omega] at B
  rcases B with B | B
  · omega
  · exact B
end WNU
