/-! count: the pair -/
theorem h_390 (M : EM) : e_gf 390 [26] M = some (M 26 6) := c_gf (by decide +kernel) (by decide +kernel)
theorem h_138s {w : Int} {M : EM} : E_C 138 [8, w] M = e_tv E_C (E_V 138) e_t138_0 [8, w] M := r_ent (u := 138) (as := [8, w]) (M := M) (decide_eq_true c_this)
theorem h_138n {w : Int} {M : EM} (h : w < 0 ∨ 8 < w) : E_C 138 [8, w] M = some (-1, M) := by
  rw [h_138s]
  unfold e_t138_0
  rcases x_le 0 w with ⟨c, c_n⟩ | ⟨c, c_n⟩
  · have c2 : 8 < w := by omega
    have c3 : ¬ w ≤ 8 := by omega
    simp [e_tv, e_ev, e_sv, e_b1, e_b2, x_o1, x_o2, c, c_n, c2, c3]
  · simp [e_tv, e_ev, e_sv, e_b1, e_b2, x_o1, x_o2, c, c_n]
theorem h_138_0 {M : EM} : E_C 138 [8, 0] M = some (M 10 0, M) := by
  rw [h_138s]
  unfold e_t138_0
  have f := w_P0 M
  simp [e_tv, e_ev, e_sv, e_b1, e_b2, x_o1, x_o2, p_704, w_H0, f]
theorem h_138_a {w r : Int} {M : EM} (h : 1 ≤ w ∧ w ≤ 4) (k : E_C 56 [10, w - 1] M = some (r, M)) : E_C 138 [8, w] M = some (r, M) := by
  rw [h_138s]
  unfold e_t138_0
  have w3 : e_w (w - 1) = w - 1 := a_w_id (by omega) (by omega)
  have c1 : 0 ≤ w := by omega
  have c1' : ¬ w < 0 := by omega
  have c2 : ¬ 8 < w := by omega
  have c2' : w ≤ 8 := by omega
  have c3 : w ≠ 0 := by omega
  have c4 : w ≤ 4 := by omega
  have c4' : ¬ 4 < w := by omega
  simp [e_tv, e_ev, e_sv, e_b1, e_b2, x_o1, x_o2, p_704, w_H0, w3, c1, c1', c2, c2', c3, c4, c4', k]
theorem h_138_5 {r : Int} {M : EM} (k : E_C 39 [18, 10] M = some (r, M)) : E_C 138 [8, 5] M = some (r, M) := by
  rw [h_138s]
  unfold e_t138_0
  simp [e_tv, e_ev, e_sv, e_b1, e_b2, x_o1, x_o2, p_704, w_H0, w_H1, k]
theorem h_138_6 {r : Int} {M : EM} (k : E_C 73 [26] M = some (r, M)) : E_C 138 [8, 6] M = some (r, M) := by
  rw [h_138s]
  unfold e_t138_0
  simp [e_tv, e_ev, e_sv, e_b1, e_b2, x_o1, x_o2, p_704, p_195, k]
theorem h_138_7 {M : EM} : E_C 138 [8, 7] M = some (M 26 6, M) := by
  rw [h_138s]
  unfold e_t138_0
  have f := h_390 M
  simp [e_tv, e_ev, e_sv, e_b1, e_b2, x_o1, x_o2, p_704, p_195, f]
theorem h_138_8 {M : EM} : E_C 138 [8, 8] M = some (M 33 2, M) := by
  rw [h_138s]
  unfold e_t138_0
  have f := p_578 M
  simp [e_tv, e_ev, e_sv, e_b1, e_b2, x_o1, x_o2, p_704, p_196, f]
theorem h_257s {w : Int} {M : EM} : E_C 257 [192, w] M = E_V 257 (if w < 0 ∨ 9 ≤ w then 215 else e_nth (.add (.num 52) (.add (.num 61) (.add (.num 61) (.add (.num 61) (.add (.num 61) (.add (.num 102) (.add (.num 156) (.add (.num 197) (.add (.num 206) (.num 215)))))))))) (w - 0).toNat) [192, w, 0, 0] M := by
  have h1 : E_C 257 [192, w] M = e_tv E_C (E_V 257) e_t257_0 [192, w, 0, 0] M := by
    unfold E_C
    rw [if_pos (show e_rok 257 [192, w] = true from decide_eq_true r_ref), E_V_eq]
    rfl
  rw [h1]
  unfold e_t257_0
  rfl
theorem h_257o {w r : Int} {M : EM} {l : Nat} (q : ¬ (w < 0 ∨ 9 ≤ w)) (e : e_nth (.add (.num 52) (.add (.num 61) (.add (.num 61) (.add (.num 61) (.add (.num 61) (.add (.num 102) (.add (.num 156) (.add (.num 197) (.add (.num 206) (.num 215)))))))))) (w - 0).toNat = l) (k : E_V 257 l [192, w, 0, 0] M = some (r, M)) : E_C 257 [192, w] M = some (r, M) := by
  rw [h_257s, if_neg q, e]
  exact k
theorem h_257n' {w : Int} {M : EM} (h : w < 0 ∨ 9 ≤ w) : E_C 257 [192, w] M = some (-1, M) := by
  rw [h_257s, if_pos h]
  rw [E_V_eq]
  show e_tv E_C (E_V 257) e_t257_215 [192, w, 0, 0] M = _
  unfold e_t257_215
  simp [e_tv, e_ev, e_sv, e_b1, e_b2, x_o1, x_o2]
theorem h_257_0 {M : EM} : E_C 257 [192, 0] M = some (r_G M 1198, M) := by
  refine h_257o (l := 52) (by decide) (by decide +kernel) ?_
  have l : e_op 60 [193, 1198] M = some (r_G M 1198) := r_rd (by decide) (by decide)
  rw [E_V_eq]
  show e_tv E_C (E_V 257) e_t257_52 [192, 0, 0, 0] M = _
  unfold e_t257_52
  simp [e_tv, e_ev, e_sv, e_b1, e_b2, x_o1, x_o2, r_O0, l]
theorem h_257_a {w : Int} {n : Nat} {M : EM} (h : 1 ≤ w ∧ w ≤ 4) (hn : r_G M 1198 = n) (h40 : n ≤ 40) : E_C 257 [192, w] M = some (h_cnt (fun j => decide (r_G M (28 * (j : Int)) = w - 1)) n 0, M) := by
  have k := h_257a h hn h40 n 0 0 (by omega) (by decide) (by decide)
  rw [Int.zero_add] at k
  have k' : E_V 257 63 [192, w, 0, 0] M = some (h_cnt (fun j => decide (r_G M (28 * (j : Int)) = w - 1)) n 0, M) := k
  have k2 : E_V 257 61 [192, w, 0, 0] M = some (h_cnt (fun j => decide (r_G M (28 * (j : Int)) = w - 1)) n 0, M) := by
    rw [E_V_eq]
    show e_tv E_C (E_V 257) e_t257_61 [192, w, 0, 0] M = _
    unfold e_t257_61
    simp [e_tv, e_ev, e_sv, e_b1, e_b2, x_o1, x_o2, k']
  refine h_257o (l := 61) (by omega) ?_ k2
  have h9 : w = 1 ∨ w = 2 ∨ w = 3 ∨ w = 4 := by omega
  rcases h9 with rfl | rfl | rfl | rfl <;> decide +kernel
theorem h_257_5 {n : Nat} {M : EM} (hn : r_G M 1198 = n) (h40 : n ≤ 40) : E_C 257 [192, 5] M = some (h_cnt (h_dd (r_G M)) n 0, M) := by
  have k := h_257b (w := 5) hn h40 n 0 0 (by omega) (by decide) (by decide)
  rw [Int.zero_add] at k
  have k' : E_V 257 104 [192, 5, 0, 0] M = some (h_cnt (h_dd (r_G M)) n 0, M) := k
  refine h_257o (l := 102) (by decide) (by decide +kernel) ?_
  rw [E_V_eq]
  show e_tv E_C (E_V 257) e_t257_102 [192, 5, 0, 0] M = _
  unfold e_t257_102
  simp [e_tv, e_ev, e_sv, e_b1, e_b2, x_o1, x_o2, k']
theorem h_257_6 {M : EM} : E_C 257 [192, 6] M = some (h_cnt (fun j => decide (0 < r_G M (1120 + 3 * (j : Int) + 2))) 10 0, M) := by
  have k := h_257c (w := 6) (M := M) 10 0 0 (by omega) (by decide) (by decide)
  rw [Int.zero_add] at k
  have k' : E_V 257 158 [192, 6, 0, 0] M = some (h_cnt (fun j => decide (0 < r_G M (1120 + 3 * (j : Int) + 2))) 10 0, M) := k
  refine h_257o (l := 156) (by decide) (by decide +kernel) ?_
  rw [E_V_eq]
  show e_tv E_C (E_V 257) e_t257_156 [192, 6, 0, 0] M = _
  unfold e_t257_156
  simp [e_tv, e_ev, e_sv, e_b1, e_b2, x_o1, x_o2, k']
theorem h_257_7 {M : EM} : E_C 257 [192, 7] M = some (r_G M 1200, M) := by
  refine h_257o (l := 197) (by decide) (by decide +kernel) ?_
  have l : e_op 60 [193, 1200] M = some (r_G M 1200) := r_rd (by decide) (by decide)
  rw [E_V_eq]
  show e_tv E_C (E_V 257) e_t257_197 [192, 7, 0, 0] M = _
  unfold e_t257_197
  simp [e_tv, e_ev, e_sv, e_b1, e_b2, x_o1, x_o2, r_O0, l]
theorem h_257_8 {M : EM} : E_C 257 [192, 8] M = some (r_G M 1199, M) := by
  refine h_257o (l := 206) (by decide) (by decide +kernel) ?_
  have l : e_op 60 [193, 1199] M = some (r_G M 1199) := r_rd (by decide) (by decide)
  rw [E_V_eq]
  show e_tv E_C (E_V 257) e_t257_206 [192, 8, 0, 0] M = _
  unfold e_t257_206
  simp [e_tv, e_ev, e_sv, e_b1, e_b2, x_o1, x_o2, r_O0, l]
