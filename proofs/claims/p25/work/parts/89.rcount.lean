section
theorem r_count {w : Int} {M : EM} (hN : r_N M) : ∃ r, E_C 257 [192, w] M = some (r, M) := by
  have h1 : E_C 257 [192, w] M = e_tv E_C (E_V 257) e_t257_0 [192, w, 0, 0] M := by
    unfold E_C
    rw [if_pos (show e_rok 257 [192, w] = true from decide_eq_true r_ref), E_V_eq]
    rfl
  have l1 : e_op 60 [193, 1198] M = some (M 193 1198) := r_s (by decide) (by decide)
  have l2 : e_op 60 [193, 1199] M = some (M 193 1199) := r_s (by decide) (by decide)
  have l3 : e_op 60 [193, 1200] M = some (M 193 1200) := r_s (by decide) (by decide)
  have j52 : ∃ r, E_V 257 52 [192, w, 0, 0] M = some (r, M) := by
    refine ⟨M 193 1198, ?_⟩
    rw [E_V_eq]
    show e_tv E_C (E_V 257) e_t257_52 [192, w, 0, 0] M = _
    unfold e_t257_52
    simp [e_tv, e_ev, r_g0, l1]
  have j197 : ∃ r, E_V 257 197 [192, w, 0, 0] M = some (r, M) := by
    refine ⟨M 193 1200, ?_⟩
    rw [E_V_eq]
    show e_tv E_C (E_V 257) e_t257_197 [192, w, 0, 0] M = _
    unfold e_t257_197
    simp [e_tv, e_ev, r_g0, l3]
  have j206 : ∃ r, E_V 257 206 [192, w, 0, 0] M = some (r, M) := by
    refine ⟨M 193 1199, ?_⟩
    rw [E_V_eq]
    show e_tv E_C (E_V 257) e_t257_206 [192, w, 0, 0] M = _
    unfold e_t257_206
    simp [e_tv, e_ev, r_g0, l2]
  have j215 : ∃ r, E_V 257 215 [192, w, 0, 0] M = some (r, M) := by
    refine ⟨-1, ?_⟩
    rw [E_V_eq]
    show e_tv E_C (E_V 257) e_t257_215 [192, w, 0, 0] M = _
    unfold e_t257_215
    simp [zq_a, zq_b, zq_c, zq_d, zq_e, zq_f, zq_g, zq_h, zq_i, zq_j, zq_k, zq_l, zq_m, zq_n, zq_o, zq_p, zq_q, zq_r, zq_s, zq_t, zq_u, zq_v, zq_w, zq_x, zq_y, zq_z, zq_A, zq_B, zq_C, zq_D, zq_E, zq_F, zq_G, zq_H, zq_I, zq_J, zq_K, zq_L, ↓zq_M, ↓zq_N, ↓zq_O, ↓zq_P, ↓zq_Q, ↓zq_R, zq_S, zq_T, zq_U, zq_V, zq_W, zq_X, zq_Y, zq_Z, zq_0, zq_1, zq_2, zq_3, zq_4, zq_5, ↓zq_6, ↓zq_7, ↓zq_8, ↓zq_9, ↓zq_aa, zq_ab, zq_ac, zq_ad, zq_ae, zq_af, zq_ag, ↓zq_ah, ↓zq_ai, ↓zq_aj, zq_ak, ↓zq_al, ↓zq_am, e_op, e_b1]
  have j61 : ∃ r, E_V 257 61 [192, w, 0, 0] M = some (r, M) := by
    obtain ⟨r, k⟩ := r_count_a (w := w) hN _ 0 0 (Nat.le_refl _) (by decide) hN.1
    refine ⟨r, ?_⟩
    rw [E_V_eq]
    show e_tv E_C (E_V 257) e_t257_61 [192, w, 0, 0] M = _
    unfold e_t257_61
    simp [zq_a, zq_b, zq_c, zq_d, zq_e, zq_f, zq_g, zq_h, zq_i, zq_j, zq_k, zq_l, zq_m, zq_n, zq_o, zq_p, zq_q, zq_r, zq_s, zq_t, zq_u, zq_v, zq_w, zq_x, zq_y, zq_z, zq_A, zq_B, zq_C, zq_D, zq_E, zq_F, zq_G, zq_H, zq_I, zq_J, zq_K, zq_L, ↓zq_M, ↓zq_N, ↓zq_O, ↓zq_P, ↓zq_Q, ↓zq_R, zq_S, zq_T, zq_U, zq_V, zq_W, zq_X, zq_Y, zq_Z, zq_0, zq_1, zq_2, zq_3, zq_4, zq_5, ↓zq_6, ↓zq_7, ↓zq_8, ↓zq_9, ↓zq_aa, zq_ab, zq_ac, zq_ad, zq_ae, zq_af, zq_ag, ↓zq_ah, ↓zq_ai, ↓zq_aj, zq_ak, ↓zq_al, ↓zq_am, k]
  have j102 : ∃ r, E_V 257 102 [192, w, 0, 0] M = some (r, M) := by
    obtain ⟨r, k⟩ := r_count_b (w := w) hN _ 0 0 (Nat.le_refl _) (by decide) hN.1
    refine ⟨r, ?_⟩
    rw [E_V_eq]
    show e_tv E_C (E_V 257) e_t257_102 [192, w, 0, 0] M = _
    unfold e_t257_102
    simp [zq_a, zq_b, zq_c, zq_d, zq_e, zq_f, zq_g, zq_h, zq_i, zq_j, zq_k, zq_l, zq_m, zq_n, zq_o, zq_p, zq_q, zq_r, zq_s, zq_t, zq_u, zq_v, zq_w, zq_x, zq_y, zq_z, zq_A, zq_B, zq_C, zq_D, zq_E, zq_F, zq_G, zq_H, zq_I, zq_J, zq_K, zq_L, ↓zq_M, ↓zq_N, ↓zq_O, ↓zq_P, ↓zq_Q, ↓zq_R, zq_S, zq_T, zq_U, zq_V, zq_W, zq_X, zq_Y, zq_Z, zq_0, zq_1, zq_2, zq_3, zq_4, zq_5, ↓zq_6, ↓zq_7, ↓zq_8, ↓zq_9, ↓zq_aa, zq_ab, zq_ac, zq_ad, zq_ae, zq_af, zq_ag, ↓zq_ah, ↓zq_ai, ↓zq_aj, zq_ak, ↓zq_al, ↓zq_am, k]
  have j156 : ∃ r, E_V 257 156 [192, w, 0, 0] M = some (r, M) := by
    obtain ⟨r, k⟩ := r_count_c (w := w) (M := M) 10 0 0 (by decide) (by decide) (by decide)
    refine ⟨r, ?_⟩
    rw [E_V_eq]
    show e_tv E_C (E_V 257) e_t257_156 [192, w, 0, 0] M = _
    unfold e_t257_156
    simp [zq_a, zq_b, zq_c, zq_d, zq_e, zq_f, zq_g, zq_h, zq_i, zq_j, zq_k, zq_l, zq_m, zq_n, zq_o, zq_p, zq_q, zq_r, zq_s, zq_t, zq_u, zq_v, zq_w, zq_x, zq_y, zq_z, zq_A, zq_B, zq_C, zq_D, zq_E, zq_F, zq_G, zq_H, zq_I, zq_J, zq_K, zq_L, ↓zq_M, ↓zq_N, ↓zq_O, ↓zq_P, ↓zq_Q, ↓zq_R, zq_S, zq_T, zq_U, zq_V, zq_W, zq_X, zq_Y, zq_Z, zq_0, zq_1, zq_2, zq_3, zq_4, zq_5, ↓zq_6, ↓zq_7, ↓zq_8, ↓zq_9, ↓zq_aa, zq_ab, zq_ac, zq_ad, zq_ae, zq_af, zq_ag, ↓zq_ah, ↓zq_ai, ↓zq_aj, zq_ak, ↓zq_al, ↓zq_am, k]
  rw [h1]
  unfold e_t257_0
  show ∃ r, E_V 257 (if w < 0 ∨ 9 ≤ w then 215 else e_nth (.add (.num 52) (.add (.num 61) (.add (.num 61) (.add (.num 61) (.add (.num 61) (.add (.num 102) (.add (.num 156) (.add (.num 197) (.add (.num 206) (.num 215)))))))))) (w - 0).toNat) [192, w, 0, 0] M = some (r, M)
  by_cases q : w < 0 ∨ 9 ≤ w
  · rw [if_pos q]; exact j215
  · rw [if_neg q]
    have h9 : w = 0 ∨ w = 1 ∨ w = 2 ∨ w = 3 ∨ w = 4 ∨ w = 5 ∨ w = 6 ∨ w = 7 ∨ w = 8 := by omega
    rcases h9 with rfl | rfl | rfl | rfl | rfl | rfl | rfl | rfl | rfl
    · exact j52
    · exact j61
    · exact j61
    · exact j61
    · exact j61
    · exact j102
    · exact j156
    · exact j197
    · exact j206
end
section
/-! THE REFERENCE'S ROW AS TOLD: what holds of it behind every call, as far as no call needs more to come to an end -/
theorem r_F9 {M : EM} : e_gf 777 [192] M = some (M 192 9) := c_gf r_ref (by decide +kernel)
theorem r_P9 {M : EM} {v : Int} : e_pf 777 [192, v] M = some (e_up M 192 9 v) := c_pf r_ref (by decide +kernel)
theorem r_F10 {M : EM} : e_gf 778 [192] M = some (M 192 10) := c_gf r_ref (by decide +kernel)
theorem r_P10 {M : EM} {v : Int} : e_pf 778 [192, v] M = some (e_up M 192 10 v) := c_pf r_ref (by decide +kernel)
theorem r_F13 {M : EM} : e_gf 781 [192] M = some (M 192 13) := c_gf r_ref (by decide +kernel)
theorem r_P13 {M : EM} {v : Int} : e_pf 781 [192, v] M = some (e_up M 192 13 v) := c_pf r_ref (by decide +kernel)
theorem r_F14 {M : EM} : e_gf 782 [192] M = some (M 192 14) := c_gf r_ref (by decide +kernel)
theorem r_P14 {M : EM} {v : Int} : e_pf 782 [192, v] M = some (e_up M 192 14 v) := c_pf r_ref (by decide +kernel)
theorem r_F15 {M : EM} : e_gf 783 [192] M = some (M 192 15) := c_gf r_ref (by decide +kernel)
theorem r_P15 {M : EM} {v : Int} : e_pf 783 [192, v] M = some (e_up M 192 15 v) := c_pf r_ref (by decide +kernel)
theorem r_F16 {M : EM} : e_gf 784 [192] M = some (M 192 16) := c_gf r_ref (by decide +kernel)
theorem r_P16 {M : EM} {v : Int} : e_pf 784 [192, v] M = some (e_up M 192 16 v) := c_pf r_ref (by decide +kernel)
theorem r_F17 {M : EM} : e_gf 785 [192] M = some (M 192 17) := c_gf r_ref (by decide +kernel)
theorem r_P17 {M : EM} {v : Int} : e_pf 785 [192, v] M = some (e_up M 192 17 v) := c_pf r_ref (by decide +kernel)
theorem r_F18 {M : EM} : e_gf 786 [192] M = some (M 192 18) := c_gf r_ref (by decide +kernel)
theorem r_P18 {M : EM} {v : Int} : e_pf 786 [192, v] M = some (e_up M 192 18 v) := c_pf r_ref (by decide +kernel)
theorem r_F20 {M : EM} : e_gf 788 [192] M = some (M 192 20) := c_gf r_ref (by decide +kernel)
theorem r_P20 {M : EM} {v : Int} : e_pf 788 [192, v] M = some (e_up M 192 20 v) := c_pf r_ref (by decide +kernel)
theorem r_F21 {M : EM} : e_gf 789 [192] M = some (M 192 21) := c_gf r_ref (by decide +kernel)
theorem r_P21 {M : EM} {v : Int} : e_pf 789 [192, v] M = some (e_up M 192 21 v) := c_pf r_ref (by decide +kernel)
theorem r_F22 {M : EM} : e_gf 790 [192] M = some (M 192 22) := c_gf r_ref (by decide +kernel)
theorem r_P22 {M : EM} {v : Int} : e_pf 790 [192, v] M = some (e_up M 192 22 v) := c_pf r_ref (by decide +kernel)
theorem r_F23 {M : EM} : e_gf 791 [192] M = some (M 192 23) := c_gf r_ref (by decide +kernel)
theorem r_P23 {M : EM} {v : Int} : e_pf 791 [192, v] M = some (e_up M 192 23 v) := c_pf r_ref (by decide +kernel)
theorem r_F24 {M : EM} : e_gf 792 [192] M = some (M 192 24) := c_gf r_ref (by decide +kernel)
theorem r_P24 {M : EM} {v : Int} : e_pf 792 [192, v] M = some (e_up M 192 24 v) := c_pf r_ref (by decide +kernel)
theorem r_F27 {M : EM} : e_gf 795 [192] M = some (M 192 27) := c_gf r_ref (by decide +kernel)
theorem r_P27 {M : EM} {v : Int} : e_pf 795 [192, v] M = some (e_up M 192 27 v) := c_pf r_ref (by decide +kernel)
theorem r_F28 {M : EM} : e_gf 796 [192] M = some (M 192 28) := c_gf r_ref (by decide +kernel)
theorem r_P28 {M : EM} {v : Int} : e_pf 796 [192, v] M = some (e_up M 192 28 v) := c_pf r_ref (by decide +kernel)
theorem r_F29 {M : EM} : e_gf 797 [192] M = some (M 192 29) := c_gf r_ref (by decide +kernel)
theorem r_P29 {M : EM} {v : Int} : e_pf 797 [192, v] M = some (e_up M 192 29 v) := c_pf r_ref (by decide +kernel)
theorem r_F30 {M : EM} : e_gf 798 [192] M = some (M 192 30) := c_gf r_ref (by decide +kernel)
theorem r_P30 {M : EM} {v : Int} : e_pf 798 [192, v] M = some (e_up M 192 30 v) := c_pf r_ref (by decide +kernel)
theorem r_F33 {M : EM} : e_gf 801 [192] M = some (M 192 33) := c_gf r_ref (by decide +kernel)
theorem r_P33 {M : EM} {v : Int} : e_pf 801 [192, v] M = some (e_up M 192 33 v) := c_pf r_ref (by decide +kernel)
theorem r_F34 {M : EM} : e_gf 802 [192] M = some (M 192 34) := c_gf r_ref (by decide +kernel)
theorem r_P34 {M : EM} {v : Int} : e_pf 802 [192, v] M = some (e_up M 192 34 v) := c_pf r_ref (by decide +kernel)
theorem r_F35 {M : EM} : e_gf 803 [192] M = some (M 192 35) := c_gf r_ref (by decide +kernel)
theorem r_P35 {M : EM} {v : Int} : e_pf 803 [192, v] M = some (e_up M 192 35 v) := c_pf r_ref (by decide +kernel)
theorem r_O0 {M : EM} : e_gf 768 [192] M = some 193 := r_g 768 193 M (by decide +kernel)
theorem r_O1 {M : EM} : e_gf 769 [192] M = some 194 := r_g 769 194 M (by decide +kernel)
theorem r_O2 {M : EM} : e_gf 770 [192] M = some 195 := r_g 770 195 M (by decide +kernel)
theorem r_O3 {M : EM} : e_gf 771 [192] M = some 196 := r_g 771 196 M (by decide +kernel)
theorem r_O4 {M : EM} : e_gf 772 [192] M = some 197 := r_g 772 197 M (by decide +kernel)
theorem r_O5 {M : EM} : e_gf 773 [192] M = some 198 := r_g 773 198 M (by decide +kernel)
theorem r_O6 {M : EM} : e_gf 774 [192] M = some 199 := r_g 774 199 M (by decide +kernel)
theorem r_O7 {M : EM} : e_gf 775 [192] M = some 200 := r_g 775 200 M (by decide +kernel)
theorem r_O8 {M : EM} : e_gf 776 [192] M = some 201 := r_g 776 201 M (by decide +kernel)
theorem r_O11 {M : EM} : e_gf 779 [192] M = some 202 := r_g 779 202 M (by decide +kernel)
theorem r_O12 {M : EM} : e_gf 780 [192] M = some 203 := r_g 780 203 M (by decide +kernel)
theorem r_O19 {M : EM} : e_gf 787 [192] M = some 204 := r_g 787 204 M (by decide +kernel)
theorem r_O25 {M : EM} : e_gf 793 [192] M = some 205 := r_g 793 205 M (by decide +kernel)
theorem r_O26 {M : EM} : e_gf 794 [192] M = some 206 := r_g 794 206 M (by decide +kernel)
theorem r_O31 {M : EM} : e_gf 799 [192] M = some 207 := r_g 799 207 M (by decide +kernel)
theorem r_O32 {M : EM} : e_gf 800 [192] M = some 208 := r_g 800 208 M (by decide +kernel)
theorem r_O36 {M : EM} : e_gf 804 [192] M = some 209 := r_g 804 209 M (by decide +kernel)
theorem r_O37 {M : EM} : e_gf 805 [192] M = some 210 := r_g 805 210 M (by decide +kernel)
theorem r_O38 {M : EM} : e_gf 806 [192] M = some 211 := r_g 806 211 M (by decide +kernel)
theorem r_O39 {M : EM} : e_gf 807 [192] M = some 212 := r_g 807 212 M (by decide +kernel)
theorem r_ent {u : Nat} {as : List Int} {M : EM} (hr : e_rok u as = true) : E_C u as M = e_tv E_C (E_V u) (e_tr u 0) (e_pad u as) M := (show E_C u as M = E_V u 0 (e_pad u as) M from if_pos hr).trans (E_V_eq u 0 (e_pad u as) M)
/-- the row s by whole numbers -/
def r_G (M : EM) (i : Int) : Int := M 193 i.toNat
theorem r_rd {i : Int} {M : EM} (h0 : 0 ≤ i) (hi : i < 1330) : e_op 60 [193, i] M = some (r_G M i) := r_s h0 hi
def r_lies (g : Int → Int) (x : Int) : Prop := g (28 * x + 20) = 0 ∨ (0 ≤ g (28 * x + 21) ∧ g (28 * x + 21) ≤ g (28 * x + 23) ∧ g (28 * x + 23) ≤ 19 ∧ 0 ≤ g (28 * x + 22) ∧ g (28 * x + 22) ≤ g (28 * x + 24) ∧ g (28 * x + 24) ≤ 11)
/-- a CELL ahead of b -/
def r_cl (g : Int → Int) (b x : Int) : Prop := 0 ≤ x ∧ x < b ∧ g (28 * x) = 0 ∧ 0 ≤ g (28 * x + 2) ∧ g (28 * x + 2) ≤ 6 ∧ r_lies g x
def r_rw (g : Int → Int) (b x : Int) : Prop := 0 ≤ x ∧ x < b ∧ g (28 * x) = 1 ∧ 0 ≤ g (28 * x + 2) ∧ g (28 * x + 2) ≤ 8 ∧ 0 ≤ g (28 * x + 19) ∧ g (28 * x + 19) ≤ 8 ∧ ∀ k, 0 ≤ k → k < g (28 * x + 2) → r_cl g x (g (28 * x + 3 + k))
def r_fd (g : Int → Int) (b x : Int) : Prop := 0 ≤ x ∧ x < b ∧ g (28 * x) = 2 ∧ 0 ≤ g (28 * x + 2) ∧ g (28 * x + 2) ≤ 6 ∧ ∀ k, 0 ≤ k → k < g (28 * x + 2) → r_cl g x (g (28 * x + 3 + k)) ∨ r_rw g x (g (28 * x + 3 + k))
def r_bx (g : Int → Int) (b x : Int) : Prop := 0 ≤ x ∧ x < b ∧ g (28 * x) = 3 ∧ (g (28 * x + 2) = 1 ∧ 0 ≤ g (28 * x + 4)) ∧ (r_cl g x (g (28 * x + 3)) ∨ r_rw g x (g (28 * x + 3)) ∨ r_fd g x (g (28 * x + 3)))
def r_pt (g : Int → Int) (b x : Int) : Prop := r_cl g b x ∨ r_rw g b x ∨ r_fd g b x ∨ r_bx g b x
/-- the store and the sky -/
def r_Z (g : Int → Int) : Prop := 0 ≤ g 1199 ∧ g 1199 ≤ 30 ∧ (∀ h, 0 ≤ h → h < 12 → 0 ≤ g (1174 + 2 * h) ∧ g (1174 + 2 * h) ≤ 20 ∧ 0 ≤ g (1174 + 2 * h + 1) ∧ g (1174 + 2 * h + 1) ≤ 99) ∧ 0 ≤ g 1200 ∧ g 1200 ≤ 120
def r_W (g : Int → Int) : Prop := 0 ≤ g 1198 ∧ g 1198 ≤ 40 ∧ (∀ x, 0 ≤ x → x < g 1198 → r_pt g (g 1198) x) ∧ r_Z g
section RWF
variable {g g' : Int → Int} {b c x : Int}
theorem r_lies_eq (h : ∀ j, 20 ≤ j → j ≤ 24 → g' (28 * x + j) = g (28 * x + j)) (hl : r_lies g x) : r_lies g' x := by
  unfold r_lies at hl ⊢
  rw [h 20 (by decide) (by decide), h 21 (by decide) (by decide), h 22 (by decide) (by decide), h 23 (by decide) (by decide), h 24 (by decide) (by decide)]
  exact hl
/-- a CELL, told by what counts of it -/
theorem r_cl_eq (h0 : g' (28 * x) = g (28 * x)) (h2 : g' (28 * x + 2) = g (28 * x + 2)) (h : r_lies g x → r_lies g' x) (hl : r_cl g b x) : r_cl g' b x := by
  obtain ⟨a1, a2, a3, a4, a5, a6⟩ := hl
  exact ⟨a1, a2, by rw [h0]; exact a3, by rw [h2]; exact a4, by rw [h2]; exact a5, h a6⟩
theorem r_cl_up (hl : r_cl g b x) (h : b ≤ c) : r_cl g c x := by
  obtain ⟨a1, a2, a3⟩ := hl
  exact ⟨a1, by omega, a3⟩
theorem r_pt_up (hl : r_pt g b x) (h : b ≤ c) : r_pt g c x := by
  rcases hl with hl | hl | hl | hl
  · exact Or.inl (r_cl_up hl h)
  · obtain ⟨a1, a2, a3⟩ := hl; exact Or.inr (Or.inl ⟨a1, by omega, a3⟩)
  · obtain ⟨a1, a2, a3⟩ := hl; exact Or.inr (Or.inr (Or.inl ⟨a1, by omega, a3⟩))
  · obtain ⟨a1, a2, a3⟩ := hl; exact Or.inr (Or.inr (Or.inr ⟨a1, by omega, a3⟩))
/-- what counts of x is as it was, CELLS ahead of it too -/
theorem r_rw_eq (h : ∀ j, 0 ≤ j → j < 28 → j ≠ 1 → g' (28 * x + j) = g (28 * x + j)) (hc : ∀ y, r_cl g x y → r_cl g' x y) (hl : r_rw g b x) : r_rw g' b x := by
  obtain ⟨a1, a2, a3, a4, a5, a6, a7, a8⟩ := hl
  have h0 := h 0 (by decide) (by decide) (by decide)
  rw [Int.add_zero] at h0
  refine ⟨a1, a2, by rw [h0]; exact a3, by rw [h 2 (by decide) (by decide) (by decide)]; exact a4, by rw [h 2 (by decide) (by decide) (by decide)]; exact a5, by rw [h 19 (by decide) (by decide) (by decide)]; exact a6, by rw [h 19 (by decide) (by decide) (by decide)]; exact a7, fun k k0 k1 => ?_⟩
  rw [h 2 (by decide) (by decide) (by decide)] at k1
  have hk := h (3 + k) (by omega) (by omega) (by omega)
  rw [show 28 * x + (3 + k) = 28 * x + 3 + k by omega] at hk
  rw [hk]
  exact hc _ (a8 k k0 k1)
theorem r_fd_eq (h : ∀ j, 0 ≤ j → j < 28 → j ≠ 1 → g' (28 * x + j) = g (28 * x + j)) (hc : ∀ y, r_cl g x y → r_cl g' x y) (hr : ∀ y, r_rw g x y → r_rw g' x y) (hl : r_fd g b x) : r_fd g' b x := by
  obtain ⟨a1, a2, a3, a4, a5, a8⟩ := hl
  have h0 := h 0 (by decide) (by decide) (by decide)
  rw [Int.add_zero] at h0
  refine ⟨a1, a2, by rw [h0]; exact a3, by rw [h 2 (by decide) (by decide) (by decide)]; exact a4, by rw [h 2 (by decide) (by decide) (by decide)]; exact a5, fun k k0 k1 => ?_⟩
  rw [h 2 (by decide) (by decide) (by decide)] at k1
  have hk := h (3 + k) (by omega) (by omega) (by omega)
  rw [show 28 * x + (3 + k) = 28 * x + 3 + k by omega] at hk
  rw [hk]
  exact (a8 k k0 k1).imp (hc _) (hr _)
theorem r_bx_eq (h0 : g' (28 * x) = g (28 * x)) (h2 : g' (28 * x + 2) = g (28 * x + 2)) (h3 : g' (28 * x + 3) = g (28 * x + 3)) (h4 : 0 ≤ g (28 * x + 4) → 0 ≤ g' (28 * x + 4)) (hc : ∀ y, r_cl g x y → r_cl g' x y) (hr : ∀ y, r_rw g x y → r_rw g' x y) (hf : ∀ y, r_fd g x y → r_fd g' x y) (hl : r_bx g b x) : r_bx g' b x := by
  obtain ⟨a1, a2, a3, a4, a5⟩ := hl
  refine ⟨a1, a2, by rw [h0]; exact a3, ⟨by rw [h2]; exact a4.1, h4 a4.2⟩, ?_⟩
  rw [h3]
  exact a5.imp (hc _) (Or.imp (hr _) (hf _))
/-- x alone has changed, and is a CELL or a BOX as ahead -/
theorem r_W_one {p : Int} (hg : r_W g) (h : ∀ i, i < 28 * p ∨ 28 * p + 28 ≤ i → g' i = g i) (h0 : g' (28 * p) = g (28 * p)) (h2 : g' (28 * p + 2) = g (28 * p + 2)) (hp : 0 ≤ p ∧ p < 40) (hk : g (28 * p) = 0 ∧ (r_lies g p → r_lies g' p) ∨ g (28 * p) = 3 ∧ g' (28 * p + 3) = g (28 * p + 3) ∧ (0 ≤ g (28 * p + 4) → 0 ≤ g' (28 * p + 4))) : r_W g' := by
  obtain ⟨w1, w2, w3, w4⟩ := hg
  have q1 : ∀ i, 1120 ≤ i → g' i = g i := fun i hi => h i (by omega)
  have oth : ∀ x, x ≠ p → ∀ j, 0 ≤ j → j < 28 → g' (28 * x + j) = g (28 * x + j) := fun x hx j h1 h2 => h _ (by omega)
  have oth0 : ∀ x, x ≠ p → g' (28 * x) = g (28 * x) := fun x hx => h _ (by omega)
  have c1 : ∀ b y, r_cl g b y → r_cl g' b y := by
    intro b y hy
    by_cases hx : y = p
    · subst hx
      rcases hk with ⟨-, hk⟩ | ⟨hk, -⟩
      · exact r_cl_eq h0 h2 hk hy
      · have := hy.2.2.1; omega
    · exact r_cl_eq (oth0 y hx) (oth y hx 2 (by decide) (by decide)) (r_lies_eq (fun j j0 j1 => oth y hx j (by omega) (by omega))) hy
  have kp : g (28 * p) = 0 ∨ g (28 * p) = 3 := hk.imp (·.1) (·.1)
  have c2 : ∀ b y, r_rw g b y → r_rw g' b y := by
    intro b y hy
    have hx : y ≠ p := by
      intro e; subst e
      have := hy.2.2.1; omega
    exact r_rw_eq (fun j j0 j1 _ => oth y hx j j0 j1) (c1 y) hy
  have c3 : ∀ b y, r_fd g b y → r_fd g' b y := by
    intro b y hy
    have hx : y ≠ p := by
      intro e; subst e
      have := hy.2.2.1; omega
    exact r_fd_eq (fun j j0 j1 _ => oth y hx j j0 j1) (c1 y) (c2 y) hy
  have c4 : ∀ b y, r_bx g b y → r_bx g' b y := by
    intro b y hy
    by_cases hx : y = p
    · subst hx
      rcases hk with ⟨hk, -⟩ | ⟨-, hk⟩
      · have := hy.2.2.1; omega
      · exact r_bx_eq h0 h2 hk.1 hk.2 (c1 y) (c2 y) (c3 y) hy
    · exact r_bx_eq (oth0 y hx) (oth y hx 2 (by decide) (by decide)) (oth y hx 3 (by decide) (by decide)) (fun h4 => by rw [oth y hx 4 (by decide) (by decide)]; exact h4) (c1 y) (c2 y) (c3 y) hy
  refine ⟨by rw [q1 1198 (by decide)]; exact w1, by rw [q1 1198 (by decide)]; exact w2, ?_, ?_⟩
  · rw [q1 1198 (by decide)]
    intro x x0 x1
    exact (w3 x x0 x1).imp (c1 _ _) (Or.imp (c2 _ _) (Or.imp (c3 _ _) (c4 _ _)))
  · obtain ⟨z1, z2, z3, z4, z5⟩ := w4
    refine ⟨by rw [q1 1199 (by decide)]; exact z1, by rw [q1 1199 (by decide)]; exact z2, fun k k0 k1 => ?_, by rw [q1 1200 (by decide)]; exact z4, by rw [q1 1200 (by decide)]; exact z5⟩
    rw [q1 _ (by omega), q1 _ (by omega)]
    exact z3 k k0 k1
/-- nothing of the PARTS has changed -/
theorem r_W_far (hg : r_W g) (h : ∀ i, i < 1120 ∨ i = 1198 → g' i = g i) (hz : r_Z g') : r_W g' := by
  obtain ⟨w1, w2, w3, w4⟩ := hg
  have oth : ∀ x, x < 40 → ∀ j, 0 ≤ j → j < 28 → g' (28 * x + j) = g (28 * x + j) := fun x hx j h1 h2 => h _ (by omega)
  have oth0 : ∀ x, x < 40 → g' (28 * x) = g (28 * x) := fun x hx => h _ (by omega)
  have c1 : ∀ b, b ≤ 40 → ∀ y, r_cl g b y → r_cl g' b y := by
    intro b hb y hy
    have hx : y < 40 := by have := hy.2.1; omega
    exact r_cl_eq (oth0 y hx) (oth y hx 2 (by decide) (by decide)) (r_lies_eq (fun j j0 j1 => oth y hx j (by omega) (by omega))) hy
  have c2 : ∀ b, b ≤ 40 → ∀ y, r_rw g b y → r_rw g' b y := by
    intro b hb y hy
    have hx : y < 40 := by have := hy.2.1; omega
    exact r_rw_eq (fun j j0 j1 _ => oth y hx j j0 j1) (c1 y (by omega)) hy
  have c3 : ∀ b, b ≤ 40 → ∀ y, r_fd g b y → r_fd g' b y := by
    intro b hb y hy
    have hx : y < 40 := by have := hy.2.1; omega
    exact r_fd_eq (fun j j0 j1 _ => oth y hx j j0 j1) (c1 y (by omega)) (c2 y (by omega)) hy
  have c4 : ∀ b, b ≤ 40 → ∀ y, r_bx g b y → r_bx g' b y := by
    intro b hb y hy
    have hx : y < 40 := by have := hy.2.1; omega
    exact r_bx_eq (oth0 y hx) (oth y hx 2 (by decide) (by decide)) (oth y hx 3 (by decide) (by decide)) (fun h4 => by rw [oth y hx 4 (by decide) (by decide)]; exact h4) (c1 y (by omega)) (c2 y (by omega)) (c3 y (by omega)) hy
  refine ⟨by rw [h 1198 (Or.inr rfl)]; exact w1, by rw [h 1198 (Or.inr rfl)]; exact w2, ?_, hz⟩
  rw [h 1198 (Or.inr rfl)]
  intro x x0 x1
  exact (w3 x x0 x1).imp (c1 _ w2 _) (Or.imp (c2 _ w2 _) (Or.imp (c3 _ w2 _) (c4 _ w2 _)))
end RWF
end
section
/-! what the reference reads of CELLS and ROWS: nothing is written, each comes to an end -/
theorem x_lt (a b : Int) : (a < b ∧ ¬ b ≤ a) ∨ (¬ a < b ∧ b ≤ a) := by omega
theorem x_le (a b : Int) : (a ≤ b ∧ ¬ b < a) ∨ (¬ a ≤ b ∧ b < a) := by omega
theorem r_gr {M : EM} (hM : a_M M) (i : Int) : -2147483648 ≤ r_G M i ∧ r_G M i ≤ 2147483647 := c_M32 hM (by decide) (by decide +kernel)
theorem r_td {z c : Int} (hz : -2147483648 ≤ z ∧ z ≤ 2147483647) (hc : 2 ≤ c) : -1073741824 ≤ e_w (z.tdiv c) ∧ e_w (z.tdiv c) ≤ 1073741824 := by
  have hq : (z.tdiv c).natAbs ≤ 1073741824 := by
    rw [Int.natAbs_tdiv]
    refine (show z.natAbs / c.natAbs ≤ 1073741824 from ?_)
    have h1 : 2 ≤ c.natAbs := by omega
    have h2 : z.natAbs ≤ 2147483648 := by omega
    have h3 : z.natAbs / c.natAbs ≤ z.natAbs / 2 := Nat.div_le_div_left h1 (by decide)
    omega
  revert hq
  generalize z.tdiv c = y
  intro hq
  rw [a_w_id (by omega) (by omega)]
  omega
/-- the reference's state in which things are asked: an HOUR or none -/
def r_E (M : EM) : Prop := a_M M ∧ r_W (r_G M) ∧ -1 ≤ M 192 20 ∧ M 192 20 ≤ 11
theorem r_shade_in {x y h x4 x5 x6 x7 x8 x9 : Int} {M : EM} (h7 : 0 ≤ x7 ∧ x7 < 10) (h9 : x9 ≤ 1073741824) (H : ∀ x10, ∃ r, E_V 222 78 [192, x, y, h, x4, x5, x6, x7 + 1, x8, x9, x10] M = some (r, M) ∧ (r = 0 ∨ r = 1)) : ∀ (m : Nat) (x10 : Int), (x9 + 1 - x10).toNat ≤ m → 0 ≤ x10 → x10 ≤ 1073741825 → ∃ r, E_V 222 127 [192, x, y, h, x4, x5, x6, x7, x8, x9, x10] M = some (r, M) ∧ (r = 0 ∨ r = 1) := by
  have w1 : e_w (3 * x7) = 3 * x7 := a_w_id (by omega) (by omega)
  have w2 : e_w (1120 + 3 * x7) = 1120 + 3 * x7 := a_w_id (by omega) (by omega)
  have w3 : e_w (1120 + 3 * x7 + 1) = 1120 + 3 * x7 + 1 := a_w_id (by omega) (by omega)
  have w4 : e_w (x7 + 1) = x7 + 1 := a_w_id (by omega) (by omega)
  have l1 : e_op 60 [193, 1120 + 3 * x7] M = some (r_G M (1120 + 3 * x7)) := r_rd (by omega) (by omega)
  have l2 : e_op 60 [193, 1120 + 3 * x7 + 1] M = some (r_G M (1120 + 3 * x7 + 1)) := r_rd (by omega) (by omega)
  have hend : ∀ x10, ¬ (x10 ≤ x9 ∧ 0 < x8) → ∃ r, E_V 222 127 [192, x, y, h, x4, x5, x6, x7, x8, x9, x10] M = some (r, M) ∧ (r = 0 ∨ r = 1) := by
    intro x10 q
    obtain ⟨r, k, hr⟩ := H x10
    refine ⟨r, ?_, hr⟩
    rcases x_le x10 x9 with ⟨q0, q0_n⟩ | ⟨q0, q0_n⟩
    · have q1 : ¬ (0 < x8) := fun e => q ⟨q0, e⟩
      rw [E_V_eq]
      show e_tv E_C (E_V 222) e_t222_127 [192, x, y, h, x4, x5, x6, x7, x8, x9, x10] M = _
      unfold e_t222_127
      simp [zq_a, zq_b, zq_c, zq_d, zq_e, zq_f, zq_g, zq_h, zq_i, zq_j, zq_k, zq_l, zq_m, zq_n, zq_o, zq_p, zq_q, zq_r, zq_s, zq_t, zq_u, zq_v, zq_w, zq_x, zq_y, zq_z, zq_A, zq_B, zq_C, zq_D, zq_E, zq_F, zq_G, zq_H, zq_I, zq_J, zq_K, zq_L, ↓zq_M, ↓zq_N, ↓zq_O, ↓zq_P, ↓zq_Q, ↓zq_R, zq_S, zq_T, zq_U, zq_V, zq_W, zq_X, zq_Y, zq_Z, zq_0, zq_1, zq_2, zq_3, zq_4, zq_5, ↓zq_6, ↓zq_7, ↓zq_8, ↓zq_9, ↓zq_aa, zq_ab, zq_ac, zq_ad, zq_ae, zq_af, zq_ag, ↓zq_ah, ↓zq_ai, ↓zq_aj, zq_ak, ↓zq_al, ↓zq_am, e_b1, e_b2, x_o1, x_o2, q0, q0_n, q1, w4, k]
    · rw [E_V_eq]
      show e_tv E_C (E_V 222) e_t222_127 [192, x, y, h, x4, x5, x6, x7, x8, x9, x10] M = _
      unfold e_t222_127
      simp [zq_a, zq_b, zq_c, zq_d, zq_e, zq_f, zq_g, zq_h, zq_i, zq_j, zq_k, zq_l, zq_m, zq_n, zq_o, zq_p, zq_q, zq_r, zq_s, zq_t, zq_u, zq_v, zq_w, zq_x, zq_y, zq_z, zq_A, zq_B, zq_C, zq_D, zq_E, zq_F, zq_G, zq_H, zq_I, zq_J, zq_K, zq_L, ↓zq_M, ↓zq_N, ↓zq_O, ↓zq_P, ↓zq_Q, ↓zq_R, zq_S, zq_T, zq_U, zq_V, zq_W, zq_X, zq_Y, zq_Z, zq_0, zq_1, zq_2, zq_3, zq_4, zq_5, ↓zq_6, ↓zq_7, ↓zq_8, ↓zq_9, ↓zq_aa, zq_ab, zq_ac, zq_ad, zq_ae, zq_af, zq_ag, ↓zq_ah, ↓zq_ai, ↓zq_aj, zq_ak, ↓zq_al, ↓zq_am, e_b1, e_b2, x_o1, x_o2, q0, q0_n, w4, k]
  intro m
  induction m with
  | zero => intro x10 hm h0 h1; exact hend x10 (by omega)
  | succ m ih =>
    intro x10 hm h0 h1
    by_cases q : x10 ≤ x9 ∧ 0 < x8
    · obtain ⟨q0, q1⟩ := q
      have w5 : e_w (x10 + 1) = x10 + 1 := a_w_id (by omega) (by omega)
      obtain ⟨r, k, hr⟩ := ih (x10 + 1) (by omega) (by omega) (by omega)
      by_cases c1 : e_w (r_G M (1120 + 3 * x7) + e_w (x10 * x5)) = x
      · by_cases c2 : e_w (r_G M (1120 + 3 * x7 + 1) + e_w (x10 * x6)) = y
        · refine ⟨1, ?_, Or.inr rfl⟩
          rw [E_V_eq]
          show e_tv E_C (E_V 222) e_t222_127 [192, x, y, h, x4, x5, x6, x7, x8, x9, x10] M = _
          unfold e_t222_127
          simp [zq_a, zq_b, zq_c, zq_d, zq_e, zq_f, zq_g, zq_h, zq_i, zq_j, zq_k, zq_l, zq_m, zq_n, zq_o, zq_p, zq_q, zq_r, zq_s, zq_t, zq_u, zq_v, zq_w, zq_x, zq_y, zq_z, zq_A, zq_B, zq_C, zq_D, zq_E, zq_F, zq_G, zq_H, zq_I, zq_J, zq_K, zq_L, ↓zq_M, ↓zq_N, ↓zq_O, ↓zq_P, ↓zq_Q, ↓zq_R, zq_S, zq_T, zq_U, zq_V, zq_W, zq_X, zq_Y, zq_Z, zq_0, zq_1, zq_2, zq_3, zq_4, zq_5, ↓zq_6, ↓zq_7, ↓zq_8, ↓zq_9, ↓zq_aa, zq_ab, zq_ac, zq_ad, zq_ae, zq_af, zq_ag, ↓zq_ah, ↓zq_ai, ↓zq_aj, zq_ak, ↓zq_al, ↓zq_am, e_b1, e_b2, x_o1, x_o2, q0, q1, r_O0, w1, w2, w3, l1, l2, c1, c2]
        · refine ⟨r, ?_, hr⟩
          rw [E_V_eq]
          show e_tv E_C (E_V 222) e_t222_127 [192, x, y, h, x4, x5, x6, x7, x8, x9, x10] M = _
          unfold e_t222_127
          simp [zq_a, zq_b, zq_c, zq_d, zq_e, zq_f, zq_g, zq_h, zq_i, zq_j, zq_k, zq_l, zq_m, zq_n, zq_o, zq_p, zq_q, zq_r, zq_s, zq_t, zq_u, zq_v, zq_w, zq_x, zq_y, zq_z, zq_A, zq_B, zq_C, zq_D, zq_E, zq_F, zq_G, zq_H, zq_I, zq_J, zq_K, zq_L, ↓zq_M, ↓zq_N, ↓zq_O, ↓zq_P, ↓zq_Q, ↓zq_R, zq_S, zq_T, zq_U, zq_V, zq_W, zq_X, zq_Y, zq_Z, zq_0, zq_1, zq_2, zq_3, zq_4, zq_5, ↓zq_6, ↓zq_7, ↓zq_8, ↓zq_9, ↓zq_aa, zq_ab, zq_ac, zq_ad, zq_ae, zq_af, zq_ag, ↓zq_ah, ↓zq_ai, ↓zq_aj, zq_ak, ↓zq_al, ↓zq_am, e_b1, e_b2, x_o1, x_o2, q0, q1, r_O0, w1, w2, w3, w5, l1, l2, c1, c2, k]
      · refine ⟨r, ?_, hr⟩
        rw [E_V_eq]
        show e_tv E_C (E_V 222) e_t222_127 [192, x, y, h, x4, x5, x6, x7, x8, x9, x10] M = _
        unfold e_t222_127
        simp [zq_a, zq_b, zq_c, zq_d, zq_e, zq_f, zq_g, zq_h, zq_i, zq_j, zq_k, zq_l, zq_m, zq_n, zq_o, zq_p, zq_q, zq_r, zq_s, zq_t, zq_u, zq_v, zq_w, zq_x, zq_y, zq_z, zq_A, zq_B, zq_C, zq_D, zq_E, zq_F, zq_G, zq_H, zq_I, zq_J, zq_K, zq_L, ↓zq_M, ↓zq_N, ↓zq_O, ↓zq_P, ↓zq_Q, ↓zq_R, zq_S, zq_T, zq_U, zq_V, zq_W, zq_X, zq_Y, zq_Z, zq_0, zq_1, zq_2, zq_3, zq_4, zq_5, ↓zq_6, ↓zq_7, ↓zq_8, ↓zq_9, ↓zq_aa, zq_ab, zq_ac, zq_ad, zq_ae, zq_af, zq_ag, ↓zq_ah, ↓zq_ai, ↓zq_aj, zq_ak, ↓zq_al, ↓zq_am, e_b1, e_b2, x_o1, x_o2, q0, q1, r_O0, w1, w2, w3, w5, l1, l2, c1, k]
    · exact hend x10 q
theorem r_shade_out {x y h x4 x5 x6 : Int} {M : EM} (hM : a_M M) (hh : 0 ≤ h ∧ h ≤ 11) : ∀ (m : Nat) (x7 x8 x9 x10 : Int), (10 - x7).toNat ≤ m → 0 ≤ x7 → x7 ≤ 10 → ∃ r, E_V 222 78 [192, x, y, h, x4, x5, x6, x7, x8, x9, x10] M = some (r, M) ∧ (r = 0 ∨ r = 1) := by
  have hend : ∀ x7 x8 x9 x10, ¬ (x7 < 10) → ∃ r, E_V 222 78 [192, x, y, h, x4, x5, x6, x7, x8, x9, x10] M = some (r, M) ∧ (r = 0 ∨ r = 1) := by
    intro x7 x8 x9 x10 q
    refine ⟨0, ?_, Or.inl rfl⟩
    rw [E_V_eq]
    show e_tv E_C (E_V 222) e_t222_78 [192, x, y, h, x4, x5, x6, x7, x8, x9, x10] M = _
    unfold e_t222_78
    simp [zq_a, zq_b, zq_c, zq_d, zq_e, zq_f, zq_g, zq_h, zq_i, zq_j, zq_k, zq_l, zq_m, zq_n, zq_o, zq_p, zq_q, zq_r, zq_s, zq_t, zq_u, zq_v, zq_w, zq_x, zq_y, zq_z, zq_A, zq_B, zq_C, zq_D, zq_E, zq_F, zq_G, zq_H, zq_I, zq_J, zq_K, zq_L, ↓zq_M, ↓zq_N, ↓zq_O, ↓zq_P, ↓zq_Q, ↓zq_R, zq_S, zq_T, zq_U, zq_V, zq_W, zq_X, zq_Y, zq_Z, zq_0, zq_1, zq_2, zq_3, zq_4, zq_5, ↓zq_6, ↓zq_7, ↓zq_8, ↓zq_9, ↓zq_aa, zq_ab, zq_ac, zq_ad, zq_ae, zq_af, zq_ag, ↓zq_ah, ↓zq_ai, ↓zq_aj, zq_ak, ↓zq_al, ↓zq_am, e_b1, e_b2, x_o1, x_o2, q]
  intro m
  induction m with
  | zero => intro x7 x8 x9 x10 hm h0 h1; exact hend x7 x8 x9 x10 (by omega)
  | succ m ih =>
    intro x7 x8 x9 x10 hm h0 h1
    rcases x_lt x7 10 with ⟨q, q_n⟩ | ⟨q, q_n⟩
    · have w1 : e_w (3 * x7) = 3 * x7 := a_w_id (by omega) (by omega)
      have w2 : e_w (1120 + 3 * x7) = 1120 + 3 * x7 := a_w_id (by omega) (by omega)
      have w3 : e_w (1120 + 3 * x7 + 2) = 1120 + 3 * x7 + 2 := a_w_id (by omega) (by omega)
      have w4 : e_w (2 * h) = 2 * h := a_w_id (by omega) (by omega)
      have w5 : e_w (1150 + 2 * h) = 1150 + 2 * h := a_w_id (by omega) (by omega)
      have w6 : e_w (1150 + 2 * h + 1) = 1150 + 2 * h + 1 := a_w_id (by omega) (by omega)
      have l1 : e_op 60 [193, 1120 + 3 * x7 + 2] M = some (r_G M (1120 + 3 * x7 + 2)) := r_rd (by omega) (by omega)
      have l2 : e_op 60 [193, 1150 + 2 * h + 1] M = some (r_G M (1150 + 2 * h + 1)) := r_rd (by omega) (by omega)
      obtain ⟨r, k, hr⟩ := r_shade_in (x := x) (y := y) (h := h) (x4 := x4) (x5 := x5) (x6 := x6) (x8 := r_G M (1120 + 3 * x7 + 2)) ⟨h0, q⟩ (r_td (c := 10) (a_w (r_G M (1120 + 3 * x7 + 2) * r_G M (1150 + 2 * h + 1))) (by decide)).2 (fun x10 => ih (x7 + 1) _ _ x10 (by omega) (by omega) (by omega)) _ 0 (Nat.le_refl _) (by decide) (by decide)
      refine ⟨r, ?_, hr⟩
      rw [E_V_eq]
      show e_tv E_C (E_V 222) e_t222_78 [192, x, y, h, x4, x5, x6, x7, x8, x9, x10] M = _
      unfold e_t222_78
      simp [zq_a, zq_b, zq_c, zq_d, zq_e, zq_f, zq_g, zq_h, zq_i, zq_j, zq_k, zq_l, zq_m, zq_n, zq_o, zq_p, zq_q, zq_r, zq_s, zq_t, zq_u, zq_v, zq_w, zq_x, zq_y, zq_z, zq_A, zq_B, zq_C, zq_D, zq_E, zq_F, zq_G, zq_H, zq_I, zq_J, zq_K, zq_L, ↓zq_M, ↓zq_N, ↓zq_O, ↓zq_P, ↓zq_Q, ↓zq_R, zq_S, zq_T, zq_U, zq_V, zq_W, zq_X, zq_Y, zq_Z, zq_0, zq_1, zq_2, zq_3, zq_4, zq_5, ↓zq_6, ↓zq_7, ↓zq_8, ↓zq_9, ↓zq_aa, zq_ab, zq_ac, zq_ad, zq_ae, zq_af, zq_ag, ↓zq_ah, ↓zq_ai, ↓zq_aj, zq_ak, ↓zq_al, ↓zq_am, e_b1, e_b2, x_o1, x_o2, q, q_n, r_O0, w1, w2, w3, w4, w5, w6, l1, l2, k]
    · exact hend x7 x8 x9 x10 q
theorem r_isShaded {x y h : Int} {M : EM} (hM : a_M M) (hh : 0 ≤ h ∧ h ≤ 11) : ∃ r, E_C 222 [192, x, y, h] M = some (r, M) ∧ (r = 0 ∨ r = 1) := by
  have w4 : e_w (2 * h) = 2 * h := a_w_id (by omega) (by omega)
  have w5 : e_w (1150 + 2 * h) = 1150 + 2 * h := a_w_id (by omega) (by omega)
  have l : e_op 60 [193, 1150 + 2 * h] M = some (r_G M (1150 + 2 * h)) := r_rd (by omega) (by omega)
  have H := fun x4 x5 x6 => r_shade_out (x := x) (y := y) (h := h) (x4 := x4) (x5 := x5) (x6 := x6) hM hh 10 0 0 0 0 (by decide) (by decide) (by decide)
  generalize r_G M (1150 + 2 * h) = v at l
  suffices h : ∃ x5 x6, E_C 222 [192, x, y, h] M = E_V 222 78 [192, x, y, h, v, x5, x6, 0, 0, 0, 0] M by
    obtain ⟨x5, x6, e⟩ := h
    rw [e]
    exact H _ _ _
  rw [r_ent (show e_rok 222 [192, x, y, h] = true from decide_eq_true r_ref)]
  show ∃ x5 x6, e_tv E_C (E_V 222) e_t222_0 [192, x, y, h, 0, 0, 0, 0, 0, 0, 0] M = _
  unfold e_t222_0
  by_cases c1 : v = 2 <;> by_cases c2 : v = 6 <;> rcases x_lt v 2 with c3 | c3 <;> by_cases c4 : v = 7 <;> by_cases c5 : v.tmod 4 = 0 <;> rcases x_lt v 4 with c6 | c6 <;> first
    | (exfalso; omega)
    | exact ⟨_, _, by simp [zq_a, zq_b, zq_c, zq_d, zq_e, zq_f, zq_g, zq_h, zq_i, zq_j, zq_k, zq_l, zq_m, zq_n, zq_o, zq_p, zq_q, zq_r, zq_s, zq_t, zq_u, zq_v, zq_w, zq_x, zq_y, zq_z, zq_A, zq_B, zq_C, zq_D, zq_E, zq_F, zq_G, zq_H, zq_I, zq_J, zq_K, zq_L, ↓zq_M, ↓zq_N, ↓zq_O, ↓zq_P, ↓zq_Q, ↓zq_R, zq_S, zq_T, zq_U, zq_V, zq_W, zq_X, zq_Y, zq_Z, zq_0, zq_1, zq_2, zq_3, zq_4, zq_5, ↓zq_6, ↓zq_7, ↓zq_8, ↓zq_9, ↓zq_aa, zq_ab, zq_ac, zq_ad, zq_ae, zq_af, zq_ag, ↓zq_ah, ↓zq_ai, ↓zq_aj, zq_ak, ↓zq_al, ↓zq_am, e_b1, e_b2, x_o1, x_o2, r_O0, w4, w5, l, c1, c2, c3, c4, c5, c6]; rfl⟩
end
section
theorem r_lit_in {p h x3 hi : Int} {M : EM} (hM : a_M M) (hh : 0 ≤ h ∧ h ≤ 11) {x6 : Int} (h6 : 0 ≤ x6 ∧ x6 ≤ 19) (hx3 : 0 ≤ x3 ∧ x3 ≤ 1112) (hi1 : r_G M (x3 + 4) = hi) (hhi : 0 ≤ hi ∧ hi ≤ 11) (H : ∀ x4 x5 x7, 0 < x4 → x4 ≤ 12 * (x6 + 1) → ∃ r, E_V 223 36 [192, p, h, x3, x4, x5, x6 + 1, x7] M = some (r, M) ∧ -2147483648 ≤ r ∧ r ≤ 2147483647) : ∀ (m : Nat) (x4 x5 x7 : Int), (hi + 1 - x7).toNat ≤ m → 0 ≤ x7 → x7 ≤ 12 → 0 ≤ x4 → x4 ≤ 12 * x6 + x7 → (0 < x4 ∨ x7 ≤ hi) → ∃ r, E_V 223 59 [192, p, h, x3, x4, x5, x6, x7] M = some (r, M) ∧ -2147483648 ≤ r ∧ r ≤ 2147483647 := by
  have w1 : e_w (x3 + 4) = x3 + 4 := a_w_id (by omega) (by omega)
  have w2 : e_w (x6 + 1) = x6 + 1 := a_w_id (by omega) (by omega)
  have l1 : e_op 60 [193, x3 + 4] M = some hi := (r_rd (by omega) (by omega)).trans (congrArg some hi1)
  have hend : ∀ x4 x5 x7, ¬ (x7 ≤ hi) → 0 < x4 → x7 ≤ 12 → x4 ≤ 12 * x6 + x7 → ∃ r, E_V 223 59 [192, p, h, x3, x4, x5, x6, x7] M = some (r, M) ∧ -2147483648 ≤ r ∧ r ≤ 2147483647 := by
    intro x4 x5 x7 q q4 q7 q5
    obtain ⟨r, k, hr⟩ := H x4 x5 x7 q4 (by omega)
    refine ⟨r, ?_, hr⟩
    rw [E_V_eq]
    show e_tv E_C (E_V 223) e_t223_59 [192, p, h, x3, x4, x5, x6, x7] M = _
    unfold e_t223_59
    simp [zq_a, zq_b, zq_c, zq_d, zq_e, zq_f, zq_g, zq_h, zq_i, zq_j, zq_k, zq_l, zq_m, zq_n, zq_o, zq_p, zq_q, zq_r, zq_s, zq_t, zq_u, zq_v, zq_w, zq_x, zq_y, zq_z, zq_A, zq_B, zq_C, zq_D, zq_E, zq_F, zq_G, zq_H, zq_I, zq_J, zq_K, zq_L, ↓zq_M, ↓zq_N, ↓zq_O, ↓zq_P, ↓zq_Q, ↓zq_R, zq_S, zq_T, zq_U, zq_V, zq_W, zq_X, zq_Y, zq_Z, zq_0, zq_1, zq_2, zq_3, zq_4, zq_5, ↓zq_6, ↓zq_7, ↓zq_8, ↓zq_9, ↓zq_aa, zq_ab, zq_ac, zq_ad, zq_ae, zq_af, zq_ag, ↓zq_ah, ↓zq_ai, ↓zq_aj, zq_ak, ↓zq_al, ↓zq_am, e_b1, e_b2, x_o1, x_o2, q, r_O0, w1, w2, l1, k]
  intro m
  induction m with
  | zero => intro x4 x5 x7 hm h0 h1 h2 h3 h4; exact hend x4 x5 x7 (by omega) (by omega) h1 h3
  | succ m ih =>
    intro x4 x5 x7 hm h0 h1 h2 h3 h4
    rcases x_le x7 hi with ⟨q, q_n⟩ | ⟨q, q_n⟩
    · have w3 : e_w (x4 + 1) = x4 + 1 := a_w_id (by omega) (by omega)
      have w4 : e_w (x7 + 1) = x7 + 1 := a_w_id (by omega) (by omega)
      obtain ⟨s, ks, hs⟩ := r_isShaded (x := x6) (y := x7) hM hh
      obtain ⟨r, k, hr⟩ := ih (x4 + 1) (e_w (x5 + (if s = 0 then 1 else 0))) (x7 + 1) (by omega) (by omega) (by omega) (by omega) (by omega) (by omega)
      refine ⟨r, ?_, hr⟩
      rw [E_V_eq]
      show e_tv E_C (E_V 223) e_t223_59 [192, p, h, x3, x4, x5, x6, x7] M = _
      unfold e_t223_59
      rcases hs with hs | hs <;> subst hs
      · simp at k
        simp [zq_a, zq_b, zq_c, zq_d, zq_e, zq_f, zq_g, zq_h, zq_i, zq_j, zq_k, zq_l, zq_m, zq_n, zq_o, zq_p, zq_q, zq_r, zq_s, zq_t, zq_u, zq_v, zq_w, zq_x, zq_y, zq_z, zq_A, zq_B, zq_C, zq_D, zq_E, zq_F, zq_G, zq_H, zq_I, zq_J, zq_K, zq_L, ↓zq_M, ↓zq_N, ↓zq_O, ↓zq_P, ↓zq_Q, ↓zq_R, zq_S, zq_T, zq_U, zq_V, zq_W, zq_X, zq_Y, zq_Z, zq_0, zq_1, zq_2, zq_3, zq_4, zq_5, ↓zq_6, ↓zq_7, ↓zq_8, ↓zq_9, ↓zq_aa, zq_ab, zq_ac, zq_ad, zq_ae, zq_af, zq_ag, ↓zq_ah, ↓zq_ai, ↓zq_aj, zq_ak, ↓zq_al, ↓zq_am, e_b1, e_b2, x_o1, x_o2, q, q_n, r_O0, w1, w3, w4, l1, ks, k]
      · simp at k
        simp [zq_a, zq_b, zq_c, zq_d, zq_e, zq_f, zq_g, zq_h, zq_i, zq_j, zq_k, zq_l, zq_m, zq_n, zq_o, zq_p, zq_q, zq_r, zq_s, zq_t, zq_u, zq_v, zq_w, zq_x, zq_y, zq_z, zq_A, zq_B, zq_C, zq_D, zq_E, zq_F, zq_G, zq_H, zq_I, zq_J, zq_K, zq_L, ↓zq_M, ↓zq_N, ↓zq_O, ↓zq_P, ↓zq_Q, ↓zq_R, zq_S, zq_T, zq_U, zq_V, zq_W, zq_X, zq_Y, zq_Z, zq_0, zq_1, zq_2, zq_3, zq_4, zq_5, ↓zq_6, ↓zq_7, ↓zq_8, ↓zq_9, ↓zq_aa, zq_ab, zq_ac, zq_ad, zq_ae, zq_af, zq_ag, ↓zq_ah, ↓zq_ai, ↓zq_aj, zq_ak, ↓zq_al, ↓zq_am, e_b1, e_b2, x_o1, x_o2, q, q_n, r_O0, w1, w3, w4, l1, ks, k]
    · exact hend x4 x5 x7 q (by omega) h1 h3
theorem r_lit_out {p h x3 xhi ylo hi : Int} {M : EM} (hM : a_M M) (hh : 0 ≤ h ∧ h ≤ 11) (hx3 : 0 ≤ x3 ∧ x3 ≤ 1112) (i3 : r_G M (x3 + 3) = xhi) (i2 : r_G M (x3 + 2) = ylo) (i4 : r_G M (x3 + 4) = hi) (h3 : xhi ≤ 19) (h2 : 0 ≤ ylo ∧ ylo ≤ hi ∧ hi ≤ 11) : ∀ (m : Nat) (x4 x5 x6 x7 : Int), (xhi + 1 - x6).toNat ≤ m → 0 ≤ x6 → x6 ≤ 20 → 0 ≤ x4 → x4 ≤ 12 * x6 → (0 < x4 ∨ x6 ≤ xhi) → ∃ r, E_V 223 36 [192, p, h, x3, x4, x5, x6, x7] M = some (r, M) ∧ -2147483648 ≤ r ∧ r ≤ 2147483647 := by
  have w1 : e_w (x3 + 3) = x3 + 3 := a_w_id (by omega) (by omega)
  have w2 : e_w (x3 + 2) = x3 + 2 := a_w_id (by omega) (by omega)
  have l1 : e_op 60 [193, x3 + 3] M = some xhi := (r_rd (by omega) (by omega)).trans (congrArg some i3)
  have l2 : e_op 60 [193, x3 + 2] M = some ylo := (r_rd (by omega) (by omega)).trans (congrArg some i2)
  have hend : ∀ x4 x5 x6 x7, ¬ (x6 ≤ xhi) → 0 < x4 → ∃ r, E_V 223 36 [192, p, h, x3, x4, x5, x6, x7] M = some (r, M) ∧ -2147483648 ≤ r ∧ r ≤ 2147483647 := by
    intro x4 x5 x6 x7 q q4
    have q4' : x4 ≠ 0 := by omega
    refine ⟨e_w ((e_w (100 * x5)).tdiv x4), ?_, a_w _⟩
    rw [E_V_eq]
    show e_tv E_C (E_V 223) e_t223_36 [192, p, h, x3, x4, x5, x6, x7] M = _
    unfold e_t223_36
    simp [zq_a, zq_b, zq_c, zq_d, zq_e, zq_f, zq_g, zq_h, zq_i, zq_j, zq_k, zq_l, zq_m, zq_n, zq_o, zq_p, zq_q, zq_r, zq_s, zq_t, zq_u, zq_v, zq_w, zq_x, zq_y, zq_z, zq_A, zq_B, zq_C, zq_D, zq_E, zq_F, zq_G, zq_H, zq_I, zq_J, zq_K, zq_L, ↓zq_M, ↓zq_N, ↓zq_O, ↓zq_P, ↓zq_Q, ↓zq_R, zq_S, zq_T, zq_U, zq_V, zq_W, zq_X, zq_Y, zq_Z, zq_0, zq_1, zq_2, zq_3, zq_4, zq_5, ↓zq_6, ↓zq_7, ↓zq_8, ↓zq_9, ↓zq_aa, zq_ab, zq_ac, zq_ad, zq_ae, zq_af, zq_ag, ↓zq_ah, ↓zq_ai, ↓zq_aj, zq_ak, ↓zq_al, ↓zq_am, e_b1, e_b2, x_o1, x_o2, q, q4', r_O0, w1, l1]
  intro m
  induction m with
  | zero => intro x4 x5 x6 x7 hm h0 h1 h4 h5 h6; exact hend x4 x5 x6 x7 (by omega) (by omega)
  | succ m ih =>
    intro x4 x5 x6 x7 hm h0 h1 h4 h5 h6
    rcases x_le x6 xhi with ⟨q, q_n⟩ | ⟨q, q_n⟩
    · obtain ⟨r, k, hr⟩ := r_lit_in (p := p) hM hh ⟨h0, by omega⟩ hx3 i4 ⟨by omega, by omega⟩ (fun x4 x5 x7 q4 q5 => ih x4 x5 (x6 + 1) x7 (by omega) (by omega) (by omega) (by omega) (by omega) (by omega)) _ x4 x5 ylo (Nat.le_refl _) (by omega) (by omega) h4 (by omega) (Or.inr h2.2.1)
      refine ⟨r, ?_, hr⟩
      rw [E_V_eq]
      show e_tv E_C (E_V 223) e_t223_36 [192, p, h, x3, x4, x5, x6, x7] M = _
      unfold e_t223_36
      simp [zq_a, zq_b, zq_c, zq_d, zq_e, zq_f, zq_g, zq_h, zq_i, zq_j, zq_k, zq_l, zq_m, zq_n, zq_o, zq_p, zq_q, zq_r, zq_s, zq_t, zq_u, zq_v, zq_w, zq_x, zq_y, zq_z, zq_A, zq_B, zq_C, zq_D, zq_E, zq_F, zq_G, zq_H, zq_I, zq_J, zq_K, zq_L, ↓zq_M, ↓zq_N, ↓zq_O, ↓zq_P, ↓zq_Q, ↓zq_R, zq_S, zq_T, zq_U, zq_V, zq_W, zq_X, zq_Y, zq_Z, zq_0, zq_1, zq_2, zq_3, zq_4, zq_5, ↓zq_6, ↓zq_7, ↓zq_8, ↓zq_9, ↓zq_aa, zq_ab, zq_ac, zq_ad, zq_ae, zq_af, zq_ag, ↓zq_ah, ↓zq_ai, ↓zq_aj, zq_ak, ↓zq_al, ↓zq_am, e_b1, e_b2, x_o1, x_o2, q, q_n, r_O0, w1, w2, l1, l2, k]
    · exact hend x4 x5 x6 x7 q (by omega)
theorem r_litOf {p h : Int} {M : EM} (hM : a_M M) (hh : 0 ≤ h ∧ h ≤ 11) (hp : 0 ≤ p ∧ p < 40) (hl : r_lies (r_G M) p) : ∃ r, E_C 223 [192, p, h] M = some (r, M) ∧ -2147483648 ≤ r ∧ r ≤ 2147483647 := by
  have w1 : e_w (28 * p) = 28 * p := a_w_id (by omega) (by omega)
  have w2 : e_w (28 * p + 20) = 28 * p + 20 := a_w_id (by omega) (by omega)
  have w3 : e_w (28 * p + 20 + 1) = 28 * p + 20 + 1 := a_w_id (by omega) (by omega)
  have l0 : e_op 60 [193, 28 * p + 20] M = some (r_G M (28 * p + 20)) := r_rd (by omega) (by omega)
  have l1 : e_op 60 [193, 28 * p + 20 + 1] M = some (r_G M (28 * p + 20 + 1)) := r_rd (by omega) (by omega)
  by_cases q : r_G M (28 * p + 20) = 0
  · refine ⟨100, ?_, by decide, by decide⟩
    rw [r_ent (show e_rok 223 [192, p, h] = true from decide_eq_true r_ref)]
    show e_tv E_C (E_V 223) e_t223_0 [192, p, h, 0, 0, 0, 0, 0] M = _
    unfold e_t223_0
    simp [zq_a, zq_b, zq_c, zq_d, zq_e, zq_f, zq_g, zq_h, zq_i, zq_j, zq_k, zq_l, zq_m, zq_n, zq_o, zq_p, zq_q, zq_r, zq_s, zq_t, zq_u, zq_v, zq_w, zq_x, zq_y, zq_z, zq_A, zq_B, zq_C, zq_D, zq_E, zq_F, zq_G, zq_H, zq_I, zq_J, zq_K, zq_L, ↓zq_M, ↓zq_N, ↓zq_O, ↓zq_P, ↓zq_Q, ↓zq_R, zq_S, zq_T, zq_U, zq_V, zq_W, zq_X, zq_Y, zq_Z, zq_0, zq_1, zq_2, zq_3, zq_4, zq_5, ↓zq_6, ↓zq_7, ↓zq_8, ↓zq_9, ↓zq_aa, zq_ab, zq_ac, zq_ad, zq_ae, zq_af, zq_ag, ↓zq_ah, ↓zq_ai, ↓zq_aj, zq_ak, ↓zq_al, ↓zq_am, e_b1, e_b2, x_o1, x_o2, r_O0, w1, w2, l0, q]
  · obtain ⟨a1, a2, a3, a4, a5, a6⟩ := hl.resolve_left q
    have e1 : 28 * p + 20 + 1 = 28 * p + 21 := by omega
    have e2 : 28 * p + 20 + 2 = 28 * p + 22 := by omega
    have e3 : 28 * p + 20 + 3 = 28 * p + 23 := by omega
    have e4 : 28 * p + 20 + 4 = 28 * p + 24 := by omega
    obtain ⟨r, k, hr⟩ := r_lit_out (p := p) (x3 := 28 * p + 20) hM hh ⟨by omega, by omega⟩ rfl rfl rfl (by rw [e3]; exact a3) (by rw [e2, e4]; exact ⟨a4, a5, a6⟩) _ 0 0 (r_G M (28 * p + 20 + 1)) 0 (Nat.le_refl _) (by rw [e1]; omega) (by rw [e1]; omega) (by decide) (by rw [e1]; omega) (Or.inr (by rw [e1, e3]; exact a2))
    refine ⟨r, ?_, hr⟩
    rw [r_ent (show e_rok 223 [192, p, h] = true from decide_eq_true r_ref)]
    show e_tv E_C (E_V 223) e_t223_0 [192, p, h, 0, 0, 0, 0, 0] M = _
    unfold e_t223_0
    simp [zq_a, zq_b, zq_c, zq_d, zq_e, zq_f, zq_g, zq_h, zq_i, zq_j, zq_k, zq_l, zq_m, zq_n, zq_o, zq_p, zq_q, zq_r, zq_s, zq_t, zq_u, zq_v, zq_w, zq_x, zq_y, zq_z, zq_A, zq_B, zq_C, zq_D, zq_E, zq_F, zq_G, zq_H, zq_I, zq_J, zq_K, zq_L, ↓zq_M, ↓zq_N, ↓zq_O, ↓zq_P, ↓zq_Q, ↓zq_R, zq_S, zq_T, zq_U, zq_V, zq_W, zq_X, zq_Y, zq_Z, zq_0, zq_1, zq_2, zq_3, zq_4, zq_5, ↓zq_6, ↓zq_7, ↓zq_8, ↓zq_9, ↓zq_aa, zq_ab, zq_ac, zq_ad, zq_ae, zq_af, zq_ag, ↓zq_ah, ↓zq_ai, ↓zq_aj, zq_ak, ↓zq_al, ↓zq_am, e_b1, e_b2, x_o1, x_o2, r_O0, w1, w2, w3, l0, l1, q, k]
end
