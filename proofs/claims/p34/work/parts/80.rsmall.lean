/-! small methods of the reference: each comes to an end -/
/-- what is known of the reference's rows -/
def r_I (M : EM) : Prop := ∀ j, j < 8 → 0 ≤ M 197 j ∧ M 197 j ≤ 120
theorem r_isD (d : Int) (M : EM) (h : 0 ≤ d ∧ d ≤ 7) : e_op 60 [195, d] M = some (M 195 d.toNat) ∧ e_op 60 [196, d] M = some (M 196 d.toNat) ∧ e_op 60 [197, d] M = some (M 197 d.toNat) ∧ e_op 60 [199, d] M = some (M 199 d.toNat) ∧ e_op 60 [200, d] M = some (M 200 d.toNat) ∧ e_op 60 [201, d] M = some (M 201 d.toNat) := by
  refine ⟨?_, ?_, ?_, ?_, ?_, ?_⟩ <;> exact r_ld (n := 8) (by decide) (by decide +kernel) (by decide +kernel) (by omega) (by omega)
theorem r_wrongRow (d w : Int) (M : EM) : ∃ r, E_C 189 [192, d, w] M = some (r, M) ∧ (-12 ≤ r ∧ r ≤ 0) ∧ (r = 0 → 0 ≤ d ∧ d ≤ 7) := by
  have h1 : E_C 189 [192, d, w] M = e_tv E_C (E_V 189) e_t189_0 [192, d, w] M := by
    unfold E_C
    rw [if_pos (show e_rok 189 [192, d, w] = true from decide_eq_true r_ref), E_V_eq]
    rfl
  have g2 : ∀ M, e_gf 770 [192] M = some 195 := fun M => r_g 770 195 M (by decide +kernel)
  have g3 : ∀ M, e_gf 771 [192] M = some 196 := fun M => r_g 771 196 M (by decide +kernel)
  rw [h1]
  unfold e_t189_0
  by_cases q0 : 0 ≤ d ∧ d ≤ 7
  · obtain ⟨l1, l2, -, -, -, -⟩ := r_isD d M q0
    by_cases q1 : M 195 d.toNat = 0
    · exact ⟨-11, by simp [e_tv, e_ev, e_b1, e_b2, x_o1, x_o2, r_isShelf, g2, g3, l1, l2, q0, q1], by decide, fun h => q0⟩
    · by_cases q2 : M 195 d.toNat = 2
      · by_cases q3 : 0 ≤ w
        · have q3' : ¬ (w < 0) := by omega
          by_cases q4 : M 196 d.toNat = w
          · exact ⟨0, by simp [e_tv, e_ev, e_b1, e_b2, x_o1, x_o2, r_isShelf, g2, g3, l1, l2, q0, q2, q3, q3', q4], by decide, fun h => q0⟩
          · exact ⟨-12, by simp [e_tv, e_ev, e_b1, e_b2, x_o1, x_o2, r_isShelf, g2, g3, l1, l2, q0, q2, q3, q3', q4], by decide, fun h => q0⟩
        · have q3' : w < 0 := by omega
          exact ⟨0, by simp [e_tv, e_ev, e_b1, e_b2, x_o1, x_o2, r_isShelf, g2, g3, l1, l2, q0, q2, q3, q3'], by decide, fun h => q0⟩
      · exact ⟨-12, by simp [e_tv, e_ev, e_b1, e_b2, x_o1, x_o2, r_isShelf, g2, g3, l1, l2, q0, q1, q2], by decide, fun h => q0⟩
  · exact ⟨-1, by simp [e_tv, e_ev, e_b1, e_b2, x_o1, x_o2, r_isShelf, g2, g3, q0], by decide, fun h => absurd h (by decide)⟩
theorem r_wrongKept (d : Int) (M : EM) : ∃ r, E_C 263 [192, d] M = some (r, M) ∧ (-12 ≤ r ∧ r ≤ 0) ∧ (r = 0 → 0 ≤ d ∧ d ≤ 7) := by
  have h1 : E_C 263 [192, d] M = e_tv E_C (E_V 263) e_t263_0 [192, d] M := by
    unfold E_C
    rw [if_pos (show e_rok 263 [192, d] = true from decide_eq_true r_ref), E_V_eq]
    rfl
  have g2 : ∀ M, e_gf 770 [192] M = some 195 := fun M => r_g 770 195 M (by decide +kernel)
  rw [h1]
  unfold e_t263_0
  by_cases q0 : 0 ≤ d ∧ d ≤ 7
  · obtain ⟨l1, -, -, -, -, -⟩ := r_isD d M q0
    by_cases q1 : M 195 d.toNat = 0
    · exact ⟨-11, by simp [e_tv, e_ev, e_b1, e_b2, x_o1, x_o2, r_isShelf, g2, l1, q0, q1], by decide, fun h => q0⟩
    · by_cases q2 : M 195 d.toNat = 1
      · exact ⟨0, by simp [e_tv, e_ev, e_b1, e_b2, x_o1, x_o2, r_isShelf, g2, l1, q0, q2], by decide, fun h => q0⟩
      · exact ⟨-12, by simp [e_tv, e_ev, e_b1, e_b2, x_o1, x_o2, r_isShelf, g2, l1, q0, q1, q2], by decide, fun h => q0⟩
  · exact ⟨-1, by simp [e_tv, e_ev, e_b1, e_b2, x_o1, x_o2, r_isShelf, g2, q0], by decide, fun h => absurd h (by decide)⟩
theorem r_weight (d : Int) (M : EM) : ∃ r, E_C 264 [192, d] M = some (r, M) := by
  have h1 : E_C 264 [192, d] M = e_tv E_C (E_V 264) e_t264_0 [192, d, 0] M := by
    unfold E_C
    rw [if_pos (show e_rok 264 [192, d] = true from decide_eq_true r_ref), E_V_eq]
    rfl
  have g7 : ∀ M, e_gf 775 [192] M = some 200 := fun M => r_g 775 200 M (by decide +kernel)
  rw [h1]
  unfold e_t264_0
  obtain ⟨r, r1, -, r3⟩ := r_wrongKept d M
  by_cases q0 : r = 0
  · obtain ⟨-, -, -, -, l, -⟩ := r_isD d M (r3 q0)
    exact ⟨_, by simp [e_tv, e_ev, e_sv, e_b1, e_b2, x_o1, x_o2, r1, q0, g7, l]; rfl⟩
  · exact ⟨r, by simp [e_tv, e_ev, e_sv, e_b1, e_b2, x_o1, x_o2, r1, q0]⟩
theorem r_toss (d : Int) (M : EM) : ∃ r, E_C 265 [192, d] M = some (r, M) := by
  have h1 : E_C 265 [192, d] M = e_tv E_C (E_V 265) e_t265_0 [192, d, 0] M := by
    unfold E_C
    rw [if_pos (show e_rok 265 [192, d] = true from decide_eq_true r_ref), E_V_eq]
    rfl
  have g6 : ∀ M, e_gf 774 [192] M = some 199 := fun M => r_g 774 199 M (by decide +kernel)
  have g8 : ∀ M, e_gf 776 [192] M = some 201 := fun M => r_g 776 201 M (by decide +kernel)
  rw [h1]
  unfold e_t265_0
  obtain ⟨r, r1, -, r3⟩ := r_wrongKept d M
  by_cases q0 : r = 0
  · obtain ⟨-, -, -, l1, -, l2⟩ := r_isD d M (r3 q0)
    by_cases q2 : M 201 d.toNat = 0
    · by_cases q1 : M 199 d.toNat = 3
      · exact ⟨_, by simp [e_tv, e_ev, e_sv, e_b1, e_b2, x_o1, x_o2, r1, q0, g6, g8, l1, l2, q1, q2]; rfl⟩
      · by_cases q3 : M 199 d.toNat = 2
        · exact ⟨_, by simp [e_tv, e_ev, e_sv, e_b1, e_b2, x_o1, x_o2, r1, q0, g6, g8, l1, l2, q3, q2]; rfl⟩
        · exact ⟨_, by simp [e_tv, e_ev, e_sv, e_b1, e_b2, x_o1, x_o2, r1, q0, g6, g8, l1, l2, q1, q3, q2]; rfl⟩
    · by_cases q1 : M 199 d.toNat = 3
      · exact ⟨_, by simp [e_tv, e_ev, e_sv, e_b1, e_b2, x_o1, x_o2, r1, q0, g6, g8, l1, l2, q1, q2]; rfl⟩
      · by_cases q3 : M 199 d.toNat = 2
        · exact ⟨_, by simp [e_tv, e_ev, e_sv, e_b1, e_b2, x_o1, x_o2, r1, q0, g6, g8, l1, l2, q3, q2]; rfl⟩
        · exact ⟨_, by simp [e_tv, e_ev, e_sv, e_b1, e_b2, x_o1, x_o2, r1, q0, g6, g8, l1, l2, q1, q3, q2]; rfl⟩
  · exact ⟨r, by simp [e_tv, e_ev, e_sv, e_b1, e_b2, x_o1, x_o2, r1, q0]⟩
