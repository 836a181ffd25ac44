theorem r_count {w : Int} {M : EM} (hN : r_N M) : ∃ r, E_C 257 [192, w] M = some (r, M) := by
  have h1 : E_C 257 [192, w] M = e_tv E_C (E_V 257) e_t257_0 [192, w, 0, 0] M := by
    unfold E_C
    rw [if_pos (show e_rok 257 [192, w] = true from decide_eq_true r_ref), E_V_eq]
    rfl
  have l1 : e_op 60 [193, 1198] M = some (M 193 1198) := r_s (by decide) (by decide)
  have l2 : e_op 60 [193, 1199] M = some (M 193 1199) := r_s (by decide) (by decide)
  have l3 : e_op 60 [193, 1200] M = some (M 193 1200) := r_s (by decide) (by decide)
  have j52 : ∃ r, E_V 257 52 [192, w, 0, 0] M = some (r, M) := by
    refine ⟨M 193 1198, ?_⟩
    rw [E_V_eq]
    show e_tv E_C (E_V 257) e_t257_52 [192, w, 0, 0] M = _
    unfold e_t257_52
    simp [e_tv, e_ev, r_g0, l1]
  have j197 : ∃ r, E_V 257 197 [192, w, 0, 0] M = some (r, M) := by
    refine ⟨M 193 1200, ?_⟩
    rw [E_V_eq]
    show e_tv E_C (E_V 257) e_t257_197 [192, w, 0, 0] M = _
    unfold e_t257_197
    simp [e_tv, e_ev, r_g0, l3]
  have j206 : ∃ r, E_V 257 206 [192, w, 0, 0] M = some (r, M) := by
    refine ⟨M 193 1199, ?_⟩
    rw [E_V_eq]
    show e_tv E_C (E_V 257) e_t257_206 [192, w, 0, 0] M = _
    unfold e_t257_206
    simp [e_tv, e_ev, r_g0, l2]
  have j215 : ∃ r, E_V 257 215 [192, w, 0, 0] M = some (r, M) := by
    refine ⟨-1, ?_⟩
    rw [E_V_eq]
    show e_tv E_C (E_V 257) e_t257_215 [192, w, 0, 0] M = _
    unfold e_t257_215
    simp [e_tv, e_ev, e_op, e_b1]
  have j61 : ∃ r, E_V 257 61 [192, w, 0, 0] M = some (r, M) := by
    obtain ⟨r, k⟩ := r_count_a (w := w) hN _ 0 0 (Nat.le_refl _) (by decide) hN.1
    refine ⟨r, ?_⟩
    rw [E_V_eq]
    show e_tv E_C (E_V 257) e_t257_61 [192, w, 0, 0] M = _
    unfold e_t257_61
    simp [e_tv, e_ev, e_sv, k]
  have j102 : ∃ r, E_V 257 102 [192, w, 0, 0] M = some (r, M) := by
    obtain ⟨r, k⟩ := r_count_b (w := w) hN _ 0 0 (Nat.le_refl _) (by decide) hN.1
    refine ⟨r, ?_⟩
    rw [E_V_eq]
    show e_tv E_C (E_V 257) e_t257_102 [192, w, 0, 0] M = _
    unfold e_t257_102
    simp [e_tv, e_ev, e_sv, k]
  have j156 : ∃ r, E_V 257 156 [192, w, 0, 0] M = some (r, M) := by
    obtain ⟨r, k⟩ := r_count_c (w := w) (M := M) 10 0 0 (by decide) (by decide) (by decide)
    refine ⟨r, ?_⟩
    rw [E_V_eq]
    show e_tv E_C (E_V 257) e_t257_156 [192, w, 0, 0] M = _
    unfold e_t257_156
    simp [e_tv, e_ev, e_sv, k]
  rw [h1]
  unfold e_t257_0
  show ∃ r, E_V 257 (if w < 0 ∨ 9 ≤ w then 215 else e_nth (.add (.num 52) (.add (.num 61) (.add (.num 61) (.add (.num 61) (.add (.num 61) (.add (.num 102) (.add (.num 156) (.add (.num 197) (.add (.num 206) (.num 215)))))))))) (w - 0).toNat) [192, w, 0, 0] M = some (r, M)
  by_cases q : w < 0 ∨ 9 ≤ w
  · rw [if_pos q]; exact j215
  · rw [if_neg q]
    have h9 : w = 0 ∨ w = 1 ∨ w = 2 ∨ w = 3 ∨ w = 4 ∨ w = 5 ∨ w = 6 ∨ w = 7 ∨ w = 8 := by omega
    rcases h9 with rfl | rfl | rfl | rfl | rfl | rfl | rfl | rfl | rfl
    · exact j52
    · exact j61
    · exact j61
    · exact j61
    · exact j61
    · exact j102
    · exact j156
    · exact j197
    · exact j206
