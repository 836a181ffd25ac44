section
/-! SHARE, PUSH and CURRENT of CELLS and ROWS of the reference -/
def r_P (u : Nat) (as : List Int) (M : EM) : Prop := ∃ r, E_C u as M = some (r, M) ∧ -2147483648 ≤ r ∧ r ≤ 2147483647
theorem r_share {p : Int} {M : EM} (hE : r_E M) (hp : 0 ≤ p ∧ p < 40) (hl : r_lies (r_G M) p) : r_P 192 [192, p] M := by
  obtain ⟨hM, hW, hh⟩ := hE
  have w1 : e_w (28 * p) = 28 * p := a_w_id (by omega) (by omega)
  have w2 : e_w (28 * p + 15) = 28 * p + 15 := a_w_id (by omega) (by omega)
  have w3 : e_w (28 * p + 15 + 4) = 28 * p + 15 + 4 := a_w_id (by omega) (by omega)
  have w4 : e_w (28 * p + 15 + 1) = 28 * p + 15 + 1 := a_w_id (by omega) (by omega)
  have w5 : e_w (28 * p + 15 + 2) = 28 * p + 15 + 2 := a_w_id (by omega) (by omega)
  have l0 : e_op 60 [193, 28 * p + 15] M = some (r_G M (28 * p + 15)) := r_rd (by omega) (by omega)
  have l1 : e_op 60 [193, 28 * p + 15 + 4] M = some (r_G M (28 * p + 15 + 4)) := r_rd (by omega) (by omega)
  have l2 : e_op 60 [193, 28 * p + 15 + 1] M = some (r_G M (28 * p + 15 + 1)) := r_rd (by omega) (by omega)
  have l3 : e_op 60 [193, 28 * p + 15 + 2] M = some (r_G M (28 * p + 15 + 2)) := r_rd (by omega) (by omega)
  unfold r_P
  suffices hs : E_C 192 [192, p] M = some (0, M) ∨ ∃ a b c, E_C 192 [192, p] M = some (e_w ((e_w (e_w (a * e_w (100 - b)) * e_w (100 - c))).tdiv 10000), M) by
    rcases hs with hs | ⟨a, b, c, hs⟩
    · exact ⟨0, hs, by decide, by decide⟩
    · exact ⟨_, hs, a_w _⟩
  by_cases c0 : r_G M (28 * p + 15 + 4) = 1
  · refine Or.inl ?_
    rw [r_ent (show e_rok 192 [192, p] = true from decide_eq_true r_ref)]
    show e_tv E_C (E_V 192) e_t192_0 [192, p, 0, 0, 0, 0] M = _
    unfold e_t192_0
    simp [zq_a, zq_b, zq_c, zq_d, zq_e, zq_f, zq_g, zq_h, zq_i, zq_j, zq_k, zq_l, zq_m, zq_n, zq_o, zq_p, zq_q, zq_r, zq_s, zq_t, zq_u, zq_v, zq_w, zq_x, zq_y, zq_z, zq_A, zq_B, zq_C, zq_D, zq_E, zq_F, zq_G, zq_H, zq_I, zq_J, zq_K, zq_L, ↓zq_M, ↓zq_N, ↓zq_O, ↓zq_P, ↓zq_Q, ↓zq_R, zq_S, zq_T, zq_U, zq_V, zq_W, zq_X, zq_Y, zq_Z, zq_0, zq_1, zq_2, zq_3, zq_4, zq_5, ↓zq_6, ↓zq_7, ↓zq_8, ↓zq_9, ↓zq_aa, zq_ab, zq_ac, zq_ad, zq_ae, zq_af, zq_ag, ↓zq_ah, ↓zq_ai, ↓zq_aj, zq_ak, ↓zq_al, ↓zq_am, e_b1, e_b2, x_o1, x_o2, r_O0, w1, w2, w3, l1, c0]
  · by_cases c1 : M 192 23 = p
    · refine Or.inl ?_
      rw [r_ent (show e_rok 192 [192, p] = true from decide_eq_true r_ref)]
      show e_tv E_C (E_V 192) e_t192_0 [192, p, 0, 0, 0, 0] M = _
      unfold e_t192_0
      simp [zq_a, zq_b, zq_c, zq_d, zq_e, zq_f, zq_g, zq_h, zq_i, zq_j, zq_k, zq_l, zq_m, zq_n, zq_o, zq_p, zq_q, zq_r, zq_s, zq_t, zq_u, zq_v, zq_w, zq_x, zq_y, zq_z, zq_A, zq_B, zq_C, zq_D, zq_E, zq_F, zq_G, zq_H, zq_I, zq_J, zq_K, zq_L, ↓zq_M, ↓zq_N, ↓zq_O, ↓zq_P, ↓zq_Q, ↓zq_R, zq_S, zq_T, zq_U, zq_V, zq_W, zq_X, zq_Y, zq_Z, zq_0, zq_1, zq_2, zq_3, zq_4, zq_5, ↓zq_6, ↓zq_7, ↓zq_8, ↓zq_9, ↓zq_aa, zq_ab, zq_ac, zq_ad, zq_ae, zq_af, zq_ag, ↓zq_ah, ↓zq_ai, ↓zq_aj, zq_ak, ↓zq_al, ↓zq_am, e_b1, e_b2, x_o1, x_o2, r_O0, r_F23, w1, w2, w3, l1, c0, c1]
    · refine Or.inr ?_
      by_cases c2 : e_bit (fun x y => x &&& y) (M 192 22) 1 = 1
      · by_cases c4 : e_bit (fun x y => x &&& y) (M 192 22) 2 = 2
        · by_cases c5 : e_bit (fun x y => x &&& y) (M 192 22) 4 = 4
          · refine ⟨100, 0, 0, ?_⟩
            rw [r_ent (show e_rok 192 [192, p] = true from decide_eq_true r_ref)]
            show e_tv E_C (E_V 192) e_t192_0 [192, p, 0, 0, 0, 0] M = _
            unfold e_t192_0
            simp [zq_a, zq_b, zq_c, zq_d, zq_e, zq_f, zq_g, zq_h, zq_i, zq_j, zq_k, zq_l, zq_m, zq_n, zq_o, zq_p, zq_q, zq_r, zq_s, zq_t, zq_u, zq_v, zq_w, zq_x, zq_y, zq_z, zq_A, zq_B, zq_C, zq_D, zq_E, zq_F, zq_G, zq_H, zq_I, zq_J, zq_K, zq_L, ↓zq_M, ↓zq_N, ↓zq_O, ↓zq_P, ↓zq_Q, ↓zq_R, zq_S, zq_T, zq_U, zq_V, zq_W, zq_X, zq_Y, zq_Z, zq_0, zq_1, zq_2, zq_3, zq_4, zq_5, ↓zq_6, ↓zq_7, ↓zq_8, ↓zq_9, ↓zq_aa, zq_ab, zq_ac, zq_ad, zq_ae, zq_af, zq_ag, ↓zq_ah, ↓zq_ai, ↓zq_aj, zq_ak, ↓zq_al, ↓zq_am, e_b1, e_b2, x_o1, x_o2, r_O0, r_F20, r_F21, r_F22, r_F23, w1, w2, w3, w4, w5, l0, l1, l2, l3, c0, c1, c2, c4, c5]
          · refine ⟨100, 0, r_G M (28 * p + 15 + 2), ?_⟩
            rw [r_ent (show e_rok 192 [192, p] = true from decide_eq_true r_ref)]
            show e_tv E_C (E_V 192) e_t192_0 [192, p, 0, 0, 0, 0] M = _
            unfold e_t192_0
            simp [zq_a, zq_b, zq_c, zq_d, zq_e, zq_f, zq_g, zq_h, zq_i, zq_j, zq_k, zq_l, zq_m, zq_n, zq_o, zq_p, zq_q, zq_r, zq_s, zq_t, zq_u, zq_v, zq_w, zq_x, zq_y, zq_z, zq_A, zq_B, zq_C, zq_D, zq_E, zq_F, zq_G, zq_H, zq_I, zq_J, zq_K, zq_L, ↓zq_M, ↓zq_N, ↓zq_O, ↓zq_P, ↓zq_Q, ↓zq_R, zq_S, zq_T, zq_U, zq_V, zq_W, zq_X, zq_Y, zq_Z, zq_0, zq_1, zq_2, zq_3, zq_4, zq_5, ↓zq_6, ↓zq_7, ↓zq_8, ↓zq_9, ↓zq_aa, zq_ab, zq_ac, zq_ad, zq_ae, zq_af, zq_ag, ↓zq_ah, ↓zq_ai, ↓zq_aj, zq_ak, ↓zq_al, ↓zq_am, e_b1, e_b2, x_o1, x_o2, r_O0, r_F20, r_F21, r_F22, r_F23, w1, w2, w3, w4, w5, l0, l1, l2, l3, c0, c1, c2, c4, c5]
        · by_cases c5 : e_bit (fun x y => x &&& y) (M 192 22) 4 = 4
          · refine ⟨100, r_G M (28 * p + 15 + 1), 0, ?_⟩
            rw [r_ent (show e_rok 192 [192, p] = true from decide_eq_true r_ref)]
            show e_tv E_C (E_V 192) e_t192_0 [192, p, 0, 0, 0, 0] M = _
            unfold e_t192_0
            simp [zq_a, zq_b, zq_c, zq_d, zq_e, zq_f, zq_g, zq_h, zq_i, zq_j, zq_k, zq_l, zq_m, zq_n, zq_o, zq_p, zq_q, zq_r, zq_s, zq_t, zq_u, zq_v, zq_w, zq_x, zq_y, zq_z, zq_A, zq_B, zq_C, zq_D, zq_E, zq_F, zq_G, zq_H, zq_I, zq_J, zq_K, zq_L, ↓zq_M, ↓zq_N, ↓zq_O, ↓zq_P, ↓zq_Q, ↓zq_R, zq_S, zq_T, zq_U, zq_V, zq_W, zq_X, zq_Y, zq_Z, zq_0, zq_1, zq_2, zq_3, zq_4, zq_5, ↓zq_6, ↓zq_7, ↓zq_8, ↓zq_9, ↓zq_aa, zq_ab, zq_ac, zq_ad, zq_ae, zq_af, zq_ag, ↓zq_ah, ↓zq_ai, ↓zq_aj, zq_ak, ↓zq_al, ↓zq_am, e_b1, e_b2, x_o1, x_o2, r_O0, r_F20, r_F21, r_F22, r_F23, w1, w2, w3, w4, w5, l0, l1, l2, l3, c0, c1, c2, c4, c5]
          · refine ⟨100, r_G M (28 * p + 15 + 1), r_G M (28 * p + 15 + 2), ?_⟩
            rw [r_ent (show e_rok 192 [192, p] = true from decide_eq_true r_ref)]
            show e_tv E_C (E_V 192) e_t192_0 [192, p, 0, 0, 0, 0] M = _
            unfold e_t192_0
            simp [zq_a, zq_b, zq_c, zq_d, zq_e, zq_f, zq_g, zq_h, zq_i, zq_j, zq_k, zq_l, zq_m, zq_n, zq_o, zq_p, zq_q, zq_r, zq_s, zq_t, zq_u, zq_v, zq_w, zq_x, zq_y, zq_z, zq_A, zq_B, zq_C, zq_D, zq_E, zq_F, zq_G, zq_H, zq_I, zq_J, zq_K, zq_L, ↓zq_M, ↓zq_N, ↓zq_O, ↓zq_P, ↓zq_Q, ↓zq_R, zq_S, zq_T, zq_U, zq_V, zq_W, zq_X, zq_Y, zq_Z, zq_0, zq_1, zq_2, zq_3, zq_4, zq_5, ↓zq_6, ↓zq_7, ↓zq_8, ↓zq_9, ↓zq_aa, zq_ab, zq_ac, zq_ad, zq_ae, zq_af, zq_ag, ↓zq_ah, ↓zq_ai, ↓zq_aj, zq_ak, ↓zq_al, ↓zq_am, e_b1, e_b2, x_o1, x_o2, r_O0, r_F20, r_F21, r_F22, r_F23, w1, w2, w3, w4, w5, l0, l1, l2, l3, c0, c1, c2, c4, c5]
      · rcases x_lt (M 192 20) 0 with c3 | c3
        · by_cases c4 : e_bit (fun x y => x &&& y) (M 192 22) 2 = 2
          · by_cases c5 : e_bit (fun x y => x &&& y) (M 192 22) 4 = 4
            · refine ⟨r_G M (28 * p + 15), 0, 0, ?_⟩
              rw [r_ent (show e_rok 192 [192, p] = true from decide_eq_true r_ref)]
              show e_tv E_C (E_V 192) e_t192_0 [192, p, 0, 0, 0, 0] M = _
              unfold e_t192_0
              simp [zq_a, zq_b, zq_c, zq_d, zq_e, zq_f, zq_g, zq_h, zq_i, zq_j, zq_k, zq_l, zq_m, zq_n, zq_o, zq_p, zq_q, zq_r, zq_s, zq_t, zq_u, zq_v, zq_w, zq_x, zq_y, zq_z, zq_A, zq_B, zq_C, zq_D, zq_E, zq_F, zq_G, zq_H, zq_I, zq_J, zq_K, zq_L, ↓zq_M, ↓zq_N, ↓zq_O, ↓zq_P, ↓zq_Q, ↓zq_R, zq_S, zq_T, zq_U, zq_V, zq_W, zq_X, zq_Y, zq_Z, zq_0, zq_1, zq_2, zq_3, zq_4, zq_5, ↓zq_6, ↓zq_7, ↓zq_8, ↓zq_9, ↓zq_aa, zq_ab, zq_ac, zq_ad, zq_ae, zq_af, zq_ag, ↓zq_ah, ↓zq_ai, ↓zq_aj, zq_ak, ↓zq_al, ↓zq_am, e_b1, e_b2, x_o1, x_o2, r_O0, r_F20, r_F21, r_F22, r_F23, w1, w2, w3, w4, w5, l0, l1, l2, l3, c0, c1, c2, c3, c4, c5]
            · refine ⟨r_G M (28 * p + 15), 0, r_G M (28 * p + 15 + 2), ?_⟩
              rw [r_ent (show e_rok 192 [192, p] = true from decide_eq_true r_ref)]
              show e_tv E_C (E_V 192) e_t192_0 [192, p, 0, 0, 0, 0] M = _
              unfold e_t192_0
              simp [zq_a, zq_b, zq_c, zq_d, zq_e, zq_f, zq_g, zq_h, zq_i, zq_j, zq_k, zq_l, zq_m, zq_n, zq_o, zq_p, zq_q, zq_r, zq_s, zq_t, zq_u, zq_v, zq_w, zq_x, zq_y, zq_z, zq_A, zq_B, zq_C, zq_D, zq_E, zq_F, zq_G, zq_H, zq_I, zq_J, zq_K, zq_L, ↓zq_M, ↓zq_N, ↓zq_O, ↓zq_P, ↓zq_Q, ↓zq_R, zq_S, zq_T, zq_U, zq_V, zq_W, zq_X, zq_Y, zq_Z, zq_0, zq_1, zq_2, zq_3, zq_4, zq_5, ↓zq_6, ↓zq_7, ↓zq_8, ↓zq_9, ↓zq_aa, zq_ab, zq_ac, zq_ad, zq_ae, zq_af, zq_ag, ↓zq_ah, ↓zq_ai, ↓zq_aj, zq_ak, ↓zq_al, ↓zq_am, e_b1, e_b2, x_o1, x_o2, r_O0, r_F20, r_F21, r_F22, r_F23, w1, w2, w3, w4, w5, l0, l1, l2, l3, c0, c1, c2, c3, c4, c5]
          · by_cases c5 : e_bit (fun x y => x &&& y) (M 192 22) 4 = 4
            · refine ⟨r_G M (28 * p + 15), r_G M (28 * p + 15 + 1), 0, ?_⟩
              rw [r_ent (show e_rok 192 [192, p] = true from decide_eq_true r_ref)]
              show e_tv E_C (E_V 192) e_t192_0 [192, p, 0, 0, 0, 0] M = _
              unfold e_t192_0
              simp [zq_a, zq_b, zq_c, zq_d, zq_e, zq_f, zq_g, zq_h, zq_i, zq_j, zq_k, zq_l, zq_m, zq_n, zq_o, zq_p, zq_q, zq_r, zq_s, zq_t, zq_u, zq_v, zq_w, zq_x, zq_y, zq_z, zq_A, zq_B, zq_C, zq_D, zq_E, zq_F, zq_G, zq_H, zq_I, zq_J, zq_K, zq_L, ↓zq_M, ↓zq_N, ↓zq_O, ↓zq_P, ↓zq_Q, ↓zq_R, zq_S, zq_T, zq_U, zq_V, zq_W, zq_X, zq_Y, zq_Z, zq_0, zq_1, zq_2, zq_3, zq_4, zq_5, ↓zq_6, ↓zq_7, ↓zq_8, ↓zq_9, ↓zq_aa, zq_ab, zq_ac, zq_ad, zq_ae, zq_af, zq_ag, ↓zq_ah, ↓zq_ai, ↓zq_aj, zq_ak, ↓zq_al, ↓zq_am, e_b1, e_b2, x_o1, x_o2, r_O0, r_F20, r_F21, r_F22, r_F23, w1, w2, w3, w4, w5, l0, l1, l2, l3, c0, c1, c2, c3, c4, c5]
            · refine ⟨r_G M (28 * p + 15), r_G M (28 * p + 15 + 1), r_G M (28 * p + 15 + 2), ?_⟩
              rw [r_ent (show e_rok 192 [192, p] = true from decide_eq_true r_ref)]
              show e_tv E_C (E_V 192) e_t192_0 [192, p, 0, 0, 0, 0] M = _
              unfold e_t192_0
              simp [zq_a, zq_b, zq_c, zq_d, zq_e, zq_f, zq_g, zq_h, zq_i, zq_j, zq_k, zq_l, zq_m, zq_n, zq_o, zq_p, zq_q, zq_r, zq_s, zq_t, zq_u, zq_v, zq_w, zq_x, zq_y, zq_z, zq_A, zq_B, zq_C, zq_D, zq_E, zq_F, zq_G, zq_H, zq_I, zq_J, zq_K, zq_L, ↓zq_M, ↓zq_N, ↓zq_O, ↓zq_P, ↓zq_Q, ↓zq_R, zq_S, zq_T, zq_U, zq_V, zq_W, zq_X, zq_Y, zq_Z, zq_0, zq_1, zq_2, zq_3, zq_4, zq_5, ↓zq_6, ↓zq_7, ↓zq_8, ↓zq_9, ↓zq_aa, zq_ab, zq_ac, zq_ad, zq_ae, zq_af, zq_ag, ↓zq_ah, ↓zq_ai, ↓zq_aj, zq_ak, ↓zq_al, ↓zq_am, e_b1, e_b2, x_o1, x_o2, r_O0, r_F20, r_F21, r_F22, r_F23, w1, w2, w3, w4, w5, l0, l1, l2, l3, c0, c1, c2, c3, c4, c5]
        · obtain ⟨t, kt, -⟩ := r_litOf (p := p) (h := M 192 20) hM ⟨c3.2, hh.2⟩ hp hl
          by_cases c4 : e_bit (fun x y => x &&& y) (M 192 22) 2 = 2
          · by_cases c5 : e_bit (fun x y => x &&& y) (M 192 22) 4 = 4
            · refine ⟨e_w ((e_w (t * M 192 21)).tdiv 100), 0, 0, ?_⟩
              rw [r_ent (show e_rok 192 [192, p] = true from decide_eq_true r_ref)]
              show e_tv E_C (E_V 192) e_t192_0 [192, p, 0, 0, 0, 0] M = _
              unfold e_t192_0
              simp [zq_a, zq_b, zq_c, zq_d, zq_e, zq_f, zq_g, zq_h, zq_i, zq_j, zq_k, zq_l, zq_m, zq_n, zq_o, zq_p, zq_q, zq_r, zq_s, zq_t, zq_u, zq_v, zq_w, zq_x, zq_y, zq_z, zq_A, zq_B, zq_C, zq_D, zq_E, zq_F, zq_G, zq_H, zq_I, zq_J, zq_K, zq_L, ↓zq_M, ↓zq_N, ↓zq_O, ↓zq_P, ↓zq_Q, ↓zq_R, zq_S, zq_T, zq_U, zq_V, zq_W, zq_X, zq_Y, zq_Z, zq_0, zq_1, zq_2, zq_3, zq_4, zq_5, ↓zq_6, ↓zq_7, ↓zq_8, ↓zq_9, ↓zq_aa, zq_ab, zq_ac, zq_ad, zq_ae, zq_af, zq_ag, ↓zq_ah, ↓zq_ai, ↓zq_aj, zq_ak, ↓zq_al, ↓zq_am, e_b1, e_b2, x_o1, x_o2, r_O0, r_F20, r_F21, r_F22, r_F23, w1, w2, w3, w4, w5, l0, l1, l2, l3, c0, c1, c2, c3, kt, c4, c5]
            · refine ⟨e_w ((e_w (t * M 192 21)).tdiv 100), 0, r_G M (28 * p + 15 + 2), ?_⟩
              rw [r_ent (show e_rok 192 [192, p] = true from decide_eq_true r_ref)]
              show e_tv E_C (E_V 192) e_t192_0 [192, p, 0, 0, 0, 0] M = _
              unfold e_t192_0
              simp [zq_a, zq_b, zq_c, zq_d, zq_e, zq_f, zq_g, zq_h, zq_i, zq_j, zq_k, zq_l, zq_m, zq_n, zq_o, zq_p, zq_q, zq_r, zq_s, zq_t, zq_u, zq_v, zq_w, zq_x, zq_y, zq_z, zq_A, zq_B, zq_C, zq_D, zq_E, zq_F, zq_G, zq_H, zq_I, zq_J, zq_K, zq_L, ↓zq_M, ↓zq_N, ↓zq_O, ↓zq_P, ↓zq_Q, ↓zq_R, zq_S, zq_T, zq_U, zq_V, zq_W, zq_X, zq_Y, zq_Z, zq_0, zq_1, zq_2, zq_3, zq_4, zq_5, ↓zq_6, ↓zq_7, ↓zq_8, ↓zq_9, ↓zq_aa, zq_ab, zq_ac, zq_ad, zq_ae, zq_af, zq_ag, ↓zq_ah, ↓zq_ai, ↓zq_aj, zq_ak, ↓zq_al, ↓zq_am, e_b1, e_b2, x_o1, x_o2, r_O0, r_F20, r_F21, r_F22, r_F23, w1, w2, w3, w4, w5, l0, l1, l2, l3, c0, c1, c2, c3, kt, c4, c5]
          · by_cases c5 : e_bit (fun x y => x &&& y) (M 192 22) 4 = 4
            · refine ⟨e_w ((e_w (t * M 192 21)).tdiv 100), r_G M (28 * p + 15 + 1), 0, ?_⟩
              rw [r_ent (show e_rok 192 [192, p] = true from decide_eq_true r_ref)]
              show e_tv E_C (E_V 192) e_t192_0 [192, p, 0, 0, 0, 0] M = _
              unfold e_t192_0
              simp [zq_a, zq_b, zq_c, zq_d, zq_e, zq_f, zq_g, zq_h, zq_i, zq_j, zq_k, zq_l, zq_m, zq_n, zq_o, zq_p, zq_q, zq_r, zq_s, zq_t, zq_u, zq_v, zq_w, zq_x, zq_y, zq_z, zq_A, zq_B, zq_C, zq_D, zq_E, zq_F, zq_G, zq_H, zq_I, zq_J, zq_K, zq_L, ↓zq_M, ↓zq_N, ↓zq_O, ↓zq_P, ↓zq_Q, ↓zq_R, zq_S, zq_T, zq_U, zq_V, zq_W, zq_X, zq_Y, zq_Z, zq_0, zq_1, zq_2, zq_3, zq_4, zq_5, ↓zq_6, ↓zq_7, ↓zq_8, ↓zq_9, ↓zq_aa, zq_ab, zq_ac, zq_ad, zq_ae, zq_af, zq_ag, ↓zq_ah, ↓zq_ai, ↓zq_aj, zq_ak, ↓zq_al, ↓zq_am, e_b1, e_b2, x_o1, x_o2, r_O0, r_F20, r_F21, r_F22, r_F23, w1, w2, w3, w4, w5, l0, l1, l2, l3, c0, c1, c2, c3, kt, c4, c5]
            · refine ⟨e_w ((e_w (t * M 192 21)).tdiv 100), r_G M (28 * p + 15 + 1), r_G M (28 * p + 15 + 2), ?_⟩
              rw [r_ent (show e_rok 192 [192, p] = true from decide_eq_true r_ref)]
              show e_tv E_C (E_V 192) e_t192_0 [192, p, 0, 0, 0, 0] M = _
              unfold e_t192_0
              simp [zq_a, zq_b, zq_c, zq_d, zq_e, zq_f, zq_g, zq_h, zq_i, zq_j, zq_k, zq_l, zq_m, zq_n, zq_o, zq_p, zq_q, zq_r, zq_s, zq_t, zq_u, zq_v, zq_w, zq_x, zq_y, zq_z, zq_A, zq_B, zq_C, zq_D, zq_E, zq_F, zq_G, zq_H, zq_I, zq_J, zq_K, zq_L, ↓zq_M, ↓zq_N, ↓zq_O, ↓zq_P, ↓zq_Q, ↓zq_R, zq_S, zq_T, zq_U, zq_V, zq_W, zq_X, zq_Y, zq_Z, zq_0, zq_1, zq_2, zq_3, zq_4, zq_5, ↓zq_6, ↓zq_7, ↓zq_8, ↓zq_9, ↓zq_aa, zq_ab, zq_ac, zq_ad, zq_ae, zq_af, zq_ag, ↓zq_ah, ↓zq_ai, ↓zq_aj, zq_ak, ↓zq_al, ↓zq_am, e_b1, e_b2, x_o1, x_o2, r_O0, r_F20, r_F21, r_F22, r_F23, w1, w2, w3, w4, w5, l0, l1, l2, l3, c0, c1, c2, c3, kt, c4, c5]
theorem r_pushAt {p i : Int} {M : EM} (hp : 0 ≤ p ∧ p < 40) (hi : 0 ≤ i ∧ i < 200) : r_P 193 [192, p, i] M := by
  have w1 : e_w (28 * p) = 28 * p := a_w_id (by omega) (by omega)
  have w2 : e_w (28 * p + 15) = 28 * p + 15 := a_w_id (by omega) (by omega)
  have w3 : e_w (28 * p + 15 + 3) = 28 * p + 15 + 3 := a_w_id (by omega) (by omega)
  have l1 : e_op 60 [193, 28 * p + 15 + 3] M = some (r_G M (28 * p + 15 + 3)) := r_rd (by omega) (by omega)
  have k := r_of (M := M) hp hi
  suffices hs : ∃ w, E_C 193 [192, p, i] M = some (e_w (M 193 (28 * p + 3 + i).toNat - e_w ((e_w (M 193 (28 * p + 3 + i).toNat * w)).tdiv 100)), M) by
    obtain ⟨w, k⟩ := hs
    exact ⟨_, k, a_w _⟩
  by_cases c4 : e_bit (fun x y => x &&& y) (M 192 22) 8 = 8
  · refine ⟨0, ?_⟩
    rw [r_ent (show e_rok 193 [192, p, i] = true from decide_eq_true r_ref)]
    show e_tv E_C (E_V 193) e_t193_0 [192, p, i, 0] M = _
    unfold e_t193_0
    simp [zq_a, zq_b, zq_c, zq_d, zq_e, zq_f, zq_g, zq_h, zq_i, zq_j, zq_k, zq_l, zq_m, zq_n, zq_o, zq_p, zq_q, zq_r, zq_s, zq_t, zq_u, zq_v, zq_w, zq_x, zq_y, zq_z, zq_A, zq_B, zq_C, zq_D, zq_E, zq_F, zq_G, zq_H, zq_I, zq_J, zq_K, zq_L, ↓zq_M, ↓zq_N, ↓zq_O, ↓zq_P, ↓zq_Q, ↓zq_R, zq_S, zq_T, zq_U, zq_V, zq_W, zq_X, zq_Y, zq_Z, zq_0, zq_1, zq_2, zq_3, zq_4, zq_5, ↓zq_6, ↓zq_7, ↓zq_8, ↓zq_9, ↓zq_aa, zq_ab, zq_ac, zq_ad, zq_ae, zq_af, zq_ag, ↓zq_ah, ↓zq_ai, ↓zq_aj, zq_ak, ↓zq_al, ↓zq_am, e_b1, e_b2, x_o1, x_o2, r_O0, r_F22, w1, w2, w3, l1, c4, k]
  · refine ⟨r_G M (28 * p + 15 + 3), ?_⟩
    rw [r_ent (show e_rok 193 [192, p, i] = true from decide_eq_true r_ref)]
    show e_tv E_C (E_V 193) e_t193_0 [192, p, i, 0] M = _
    unfold e_t193_0
    simp [zq_a, zq_b, zq_c, zq_d, zq_e, zq_f, zq_g, zq_h, zq_i, zq_j, zq_k, zq_l, zq_m, zq_n, zq_o, zq_p, zq_q, zq_r, zq_s, zq_t, zq_u, zq_v, zq_w, zq_x, zq_y, zq_z, zq_A, zq_B, zq_C, zq_D, zq_E, zq_F, zq_G, zq_H, zq_I, zq_J, zq_K, zq_L, ↓zq_M, ↓zq_N, ↓zq_O, ↓zq_P, ↓zq_Q, ↓zq_R, zq_S, zq_T, zq_U, zq_V, zq_W, zq_X, zq_Y, zq_Z, zq_0, zq_1, zq_2, zq_3, zq_4, zq_5, ↓zq_6, ↓zq_7, ↓zq_8, ↓zq_9, ↓zq_aa, zq_ab, zq_ac, zq_ad, zq_ae, zq_af, zq_ag, ↓zq_ah, ↓zq_ai, ↓zq_aj, zq_ak, ↓zq_al, ↓zq_am, e_b1, e_b2, x_o1, x_o2, r_O0, r_F22, w1, w2, w3, l1, c4, k]
theorem r_currentAt {p i sh : Int} {M : EM} (hp : 0 ≤ p ∧ p < 40) (hi : 0 ≤ i ∧ i < 200) : r_P 194 [192, p, i, sh] M := by
  have w1 : e_w (28 * p) = 28 * p := a_w_id (by omega) (by omega)
  have w2 : e_w (28 * p + 9) = 28 * p + 9 := a_w_id (by omega) (by omega)
  have w3 : e_w (28 * p + 9 + i) = 28 * p + 9 + i := a_w_id (by omega) (by omega)
  have l1 : e_op 60 [193, 28 * p + 9 + i] M = some (r_G M (28 * p + 9 + i)) := r_rd (by omega) (by omega)
  refine ⟨e_w ((e_w (r_G M (28 * p + 9 + i) * sh)).tdiv 100), ?_, a_w _⟩
  rw [r_ent (show e_rok 194 [192, p, i, sh] = true from decide_eq_true r_ref)]
  show e_tv E_C (E_V 194) e_t194_0 [192, p, i, sh] M = _
  unfold e_t194_0
  simp [zq_a, zq_b, zq_c, zq_d, zq_e, zq_f, zq_g, zq_h, zq_i, zq_j, zq_k, zq_l, zq_m, zq_n, zq_o, zq_p, zq_q, zq_r, zq_s, zq_t, zq_u, zq_v, zq_w, zq_x, zq_y, zq_z, zq_A, zq_B, zq_C, zq_D, zq_E, zq_F, zq_G, zq_H, zq_I, zq_J, zq_K, zq_L, ↓zq_M, ↓zq_N, ↓zq_O, ↓zq_P, ↓zq_Q, ↓zq_R, zq_S, zq_T, zq_U, zq_V, zq_W, zq_X, zq_Y, zq_Z, zq_0, zq_1, zq_2, zq_3, zq_4, zq_5, ↓zq_6, ↓zq_7, ↓zq_8, ↓zq_9, ↓zq_aa, zq_ab, zq_ac, zq_ad, zq_ae, zq_af, zq_ag, ↓zq_ah, ↓zq_ai, ↓zq_aj, zq_ak, ↓zq_al, ↓zq_am, e_b1, e_b2, x_o1, x_o2, r_O0, w1, w2, w3, l1]
theorem r_ne_w {a b : Int} (ha : -2147483648 ≤ a ∧ a ≤ 2147483647) (hb : -2147483648 ≤ b ∧ b ≤ 2147483647) (h : a ≠ b) : e_w (a - b) ≠ 0 := by
  unfold e_w
  omega
theorem r_cell_loop {p c sh x4 : Int} {M : EM} (hp : 0 ≤ p ∧ p < 40) : ∀ (m : Nat) (x5 x6 x7 x8 : Int), x5.toNat ≤ m → x5 ≤ 100 → ∃ r, E_V 198 46 [192, p, c, sh, x4, x5, x6, x7, x8] M = some (r, M) ∧ -2147483648 ≤ r ∧ r ≤ 2147483647 := by
  have hend : ∀ x5 x6 x7 x8, ¬ (0 < x5) → ∃ r, E_V 198 46 [192, p, c, sh, x4, x5, x6, x7, x8] M = some (r, M) ∧ -2147483648 ≤ r ∧ r ≤ 2147483647 := by
    intro x5 x6 x7 x8 q
    refine ⟨0, ?_, by decide, by decide⟩
    rw [E_V_eq]
    show e_tv E_C (E_V 198) e_t198_46 [192, p, c, sh, x4, x5, x6, x7, x8] M = _
    unfold e_t198_46
    simp [zq_a, zq_b, zq_c, zq_d, zq_e, zq_f, zq_g, zq_h, zq_i, zq_j, zq_k, zq_l, zq_m, zq_n, zq_o, zq_p, zq_q, zq_r, zq_s, zq_t, zq_u, zq_v, zq_w, zq_x, zq_y, zq_z, zq_A, zq_B, zq_C, zq_D, zq_E, zq_F, zq_G, zq_H, zq_I, zq_J, zq_K, zq_L, ↓zq_M, ↓zq_N, ↓zq_O, ↓zq_P, ↓zq_Q, ↓zq_R, zq_S, zq_T, zq_U, zq_V, zq_W, zq_X, zq_Y, zq_Z, zq_0, zq_1, zq_2, zq_3, zq_4, zq_5, ↓zq_6, ↓zq_7, ↓zq_8, ↓zq_9, ↓zq_aa, zq_ab, zq_ac, zq_ad, zq_ae, zq_af, zq_ag, ↓zq_ah, ↓zq_ai, ↓zq_aj, zq_ak, ↓zq_al, ↓zq_am, e_b1, e_b2, x_o1, x_o2, q]
  intro m
  induction m with
  | zero => intro x5 x6 x7 x8 hm h0; exact hend x5 x6 x7 x8 (by omega)
  | succ m ih =>
    intro x5 x6 x7 x8 hm h0
    rcases x_lt 0 x5 with ⟨q, q_n⟩ | ⟨q, q_n⟩
    · have w1 : e_w (x5 - 1) = x5 - 1 := a_w_id (by omega) (by omega)
      have w2 : e_w (x5 + -1) = x5 - 1 := a_w_id (by omega) (by omega)
      obtain ⟨a, ka, ha⟩ := r_currentAt (p := p) (i := x5) (sh := sh) (M := M) hp ⟨by omega, by omega⟩
      obtain ⟨b, kb, hb⟩ := r_currentAt (p := p) (i := x5 - 1) (sh := sh) (M := M) hp ⟨by omega, by omega⟩
      obtain ⟨s, ks, hs⟩ := r_pushAt (p := p) (i := x5) (M := M) hp ⟨by omega, by omega⟩
      obtain ⟨t, kt, ht⟩ := r_pushAt (p := p) (i := x5 - 1) (M := M) hp ⟨by omega, by omega⟩
      have hgo : ∀ y6 y7 y8, ∃ r, E_V 198 136 [192, p, c, sh, x4, x5, y6, y7, y8] M = some (r, M) ∧ -2147483648 ≤ r ∧ r ≤ 2147483647 := by
        intro y6 y7 y8
        obtain ⟨r, k, hr⟩ := ih (x5 - 1) y6 y7 y8 (by omega) (by omega)
        refine ⟨r, ?_, hr⟩
        rw [E_V_eq]
        show e_tv E_C (E_V 198) e_t198_136 [192, p, c, sh, x4, x5, y6, y7, y8] M = _
        unfold e_t198_136
        simp [zq_a, zq_b, zq_c, zq_d, zq_e, zq_f, zq_g, zq_h, zq_i, zq_j, zq_k, zq_l, zq_m, zq_n, zq_o, zq_p, zq_q, zq_r, zq_s, zq_t, zq_u, zq_v, zq_w, zq_x, zq_y, zq_z, zq_A, zq_B, zq_C, zq_D, zq_E, zq_F, zq_G, zq_H, zq_I, zq_J, zq_K, zq_L, ↓zq_M, ↓zq_N, ↓zq_O, ↓zq_P, ↓zq_Q, ↓zq_R, zq_S, zq_T, zq_U, zq_V, zq_W, zq_X, zq_Y, zq_Z, zq_0, zq_1, zq_2, zq_3, zq_4, zq_5, ↓zq_6, ↓zq_7, ↓zq_8, ↓zq_9, ↓zq_aa, zq_ab, zq_ac, zq_ad, zq_ae, zq_af, zq_ag, ↓zq_ah, ↓zq_ai, ↓zq_aj, zq_ak, ↓zq_al, ↓zq_am, e_b1, e_b2, x_o1, x_o2, w2, k]
      rcases x_le a c with ⟨c1, c1_n⟩ | ⟨c1, c1_n⟩
      · rcases x_lt b c with ⟨c2, c2_n⟩ | ⟨c2, c2_n⟩
        · obtain ⟨r, k, hr⟩ := hgo a b x8
          refine ⟨r, ?_, hr⟩
          rw [E_V_eq]
          show e_tv E_C (E_V 198) e_t198_46 [192, p, c, sh, x4, x5, x6, x7, x8] M = _
          unfold e_t198_46
          simp [zq_a, zq_b, zq_c, zq_d, zq_e, zq_f, zq_g, zq_h, zq_i, zq_j, zq_k, zq_l, zq_m, zq_n, zq_o, zq_p, zq_q, zq_r, zq_s, zq_t, zq_u, zq_v, zq_w, zq_x, zq_y, zq_z, zq_A, zq_B, zq_C, zq_D, zq_E, zq_F, zq_G, zq_H, zq_I, zq_J, zq_K, zq_L, ↓zq_M, ↓zq_N, ↓zq_O, ↓zq_P, ↓zq_Q, ↓zq_R, zq_S, zq_T, zq_U, zq_V, zq_W, zq_X, zq_Y, zq_Z, zq_0, zq_1, zq_2, zq_3, zq_4, zq_5, ↓zq_6, ↓zq_7, ↓zq_8, ↓zq_9, ↓zq_aa, zq_ab, zq_ac, zq_ad, zq_ae, zq_af, zq_ag, ↓zq_ah, ↓zq_ai, ↓zq_aj, zq_ak, ↓zq_al, ↓zq_am, e_b1, e_b2, x_o1, x_o2, q, q_n, w1, ka, kb, c1, c1_n, c2, c2_n, k]
        · by_cases c3 : b = a
          · refine ⟨s, ?_, hs⟩
            rw [c3] at kb c2
            rw [E_V_eq]
            show e_tv E_C (E_V 198) e_t198_46 [192, p, c, sh, x4, x5, x6, x7, x8] M = _
            unfold e_t198_46
            simp [zq_a, zq_b, zq_c, zq_d, zq_e, zq_f, zq_g, zq_h, zq_i, zq_j, zq_k, zq_l, zq_m, zq_n, zq_o, zq_p, zq_q, zq_r, zq_s, zq_t, zq_u, zq_v, zq_w, zq_x, zq_y, zq_z, zq_A, zq_B, zq_C, zq_D, zq_E, zq_F, zq_G, zq_H, zq_I, zq_J, zq_K, zq_L, ↓zq_M, ↓zq_N, ↓zq_O, ↓zq_P, ↓zq_Q, ↓zq_R, zq_S, zq_T, zq_U, zq_V, zq_W, zq_X, zq_Y, zq_Z, zq_0, zq_1, zq_2, zq_3, zq_4, zq_5, ↓zq_6, ↓zq_7, ↓zq_8, ↓zq_9, ↓zq_aa, zq_ab, zq_ac, zq_ad, zq_ae, zq_af, zq_ag, ↓zq_ah, ↓zq_ai, ↓zq_aj, zq_ak, ↓zq_al, ↓zq_am, e_b1, e_b2, x_o1, x_o2, q, q_n, w1, ka, kb, ks, c1, c1_n, c2, c2_n]
          · have c4 := r_ne_w hb ha c3
            refine ⟨e_w (s - e_w ((e_w (e_w (s - t) * e_w (c - a))).tdiv (e_w (b - a)))), ?_, a_w _⟩
            rw [E_V_eq]
            show e_tv E_C (E_V 198) e_t198_46 [192, p, c, sh, x4, x5, x6, x7, x8] M = _
            unfold e_t198_46
            simp [zq_a, zq_b, zq_c, zq_d, zq_e, zq_f, zq_g, zq_h, zq_i, zq_j, zq_k, zq_l, zq_m, zq_n, zq_o, zq_p, zq_q, zq_r, zq_s, zq_t, zq_u, zq_v, zq_w, zq_x, zq_y, zq_z, zq_A, zq_B, zq_C, zq_D, zq_E, zq_F, zq_G, zq_H, zq_I, zq_J, zq_K, zq_L, ↓zq_M, ↓zq_N, ↓zq_O, ↓zq_P, ↓zq_Q, ↓zq_R, zq_S, zq_T, zq_U, zq_V, zq_W, zq_X, zq_Y, zq_Z, zq_0, zq_1, zq_2, zq_3, zq_4, zq_5, ↓zq_6, ↓zq_7, ↓zq_8, ↓zq_9, ↓zq_aa, zq_ab, zq_ac, zq_ad, zq_ae, zq_af, zq_ag, ↓zq_ah, ↓zq_ai, ↓zq_aj, zq_ak, ↓zq_al, ↓zq_am, e_b1, e_b2, x_o1, x_o2, q, q_n, w1, ka, kb, ks, kt, c1, c1_n, c2, c2_n, c3, c4]
      · obtain ⟨r, k, hr⟩ := hgo a b x8
        refine ⟨r, ?_, hr⟩
        rw [E_V_eq]
        show e_tv E_C (E_V 198) e_t198_46 [192, p, c, sh, x4, x5, x6, x7, x8] M = _
        unfold e_t198_46
        simp [zq_a, zq_b, zq_c, zq_d, zq_e, zq_f, zq_g, zq_h, zq_i, zq_j, zq_k, zq_l, zq_m, zq_n, zq_o, zq_p, zq_q, zq_r, zq_s, zq_t, zq_u, zq_v, zq_w, zq_x, zq_y, zq_z, zq_A, zq_B, zq_C, zq_D, zq_E, zq_F, zq_G, zq_H, zq_I, zq_J, zq_K, zq_L, ↓zq_M, ↓zq_N, ↓zq_O, ↓zq_P, ↓zq_Q, ↓zq_R, zq_S, zq_T, zq_U, zq_V, zq_W, zq_X, zq_Y, zq_Z, zq_0, zq_1, zq_2, zq_3, zq_4, zq_5, ↓zq_6, ↓zq_7, ↓zq_8, ↓zq_9, ↓zq_aa, zq_ab, zq_ac, zq_ad, zq_ae, zq_af, zq_ag, ↓zq_ah, ↓zq_ai, ↓zq_aj, zq_ak, ↓zq_al, ↓zq_am, e_b1, e_b2, x_o1, x_o2, q, q_n, w1, ka, kb, c1, c1_n, k]
    · exact hend x5 x6 x7 x8 q
theorem r_cellPush {p c sh : Int} {M : EM} (hp : 0 ≤ p ∧ p < 40) (hn : 0 ≤ r_G M (28 * p + 2) ∧ r_G M (28 * p + 2) ≤ 6) : r_P 198 [192, p, c, sh] M := by
  obtain ⟨a, ka, ha⟩ := r_currentAt (p := p) (i := 0) (sh := sh) (M := M) hp ⟨by decide, by decide⟩
  have km : E_C 171 [192, p] M = some (r_G M (28 * p + 2), M) := r_many hp
  have w1 : e_w (r_G M (28 * p + 2) - 1) = r_G M (28 * p + 2) - 1 := a_w_id (by omega) (by omega)
  obtain ⟨r, k, hr⟩ := r_cell_loop (c := c) (sh := sh) (x4 := a) (M := M) hp _ (r_G M (28 * p + 2) - 1) 0 0 0 (Nat.le_refl _) (by omega)
  rcases x_lt a c with ⟨c1, c1_n⟩ | ⟨c1, c1_n⟩
  · rcases x_lt 10 (e_w (c - a)) with ⟨c2, c2_n⟩ | ⟨c2, c2_n⟩
    · refine ⟨-20, ?_, by decide, by decide⟩
      rw [r_ent (show e_rok 198 [192, p, c, sh] = true from decide_eq_true r_ref)]
      show e_tv E_C (E_V 198) e_t198_0 [192, p, c, sh, 0, 0, 0, 0, 0] M = _
      unfold e_t198_0
      simp [zq_a, zq_b, zq_c, zq_d, zq_e, zq_f, zq_g, zq_h, zq_i, zq_j, zq_k, zq_l, zq_m, zq_n, zq_o, zq_p, zq_q, zq_r, zq_s, zq_t, zq_u, zq_v, zq_w, zq_x, zq_y, zq_z, zq_A, zq_B, zq_C, zq_D, zq_E, zq_F, zq_G, zq_H, zq_I, zq_J, zq_K, zq_L, ↓zq_M, ↓zq_N, ↓zq_O, ↓zq_P, ↓zq_Q, ↓zq_R, zq_S, zq_T, zq_U, zq_V, zq_W, zq_X, zq_Y, zq_Z, zq_0, zq_1, zq_2, zq_3, zq_4, zq_5, ↓zq_6, ↓zq_7, ↓zq_8, ↓zq_9, ↓zq_aa, zq_ab, zq_ac, zq_ad, zq_ae, zq_af, zq_ag, ↓zq_ah, ↓zq_ai, ↓zq_aj, zq_ak, ↓zq_al, ↓zq_am, e_b1, e_b2, x_o1, x_o2, ka, c1, c1_n, c2, c2_n]
    · refine ⟨e_w (-2 * e_w (c - a)), ?_, a_w _⟩
      rw [r_ent (show e_rok 198 [192, p, c, sh] = true from decide_eq_true r_ref)]
      show e_tv E_C (E_V 198) e_t198_0 [192, p, c, sh, 0, 0, 0, 0, 0] M = _
      unfold e_t198_0
      simp [zq_a, zq_b, zq_c, zq_d, zq_e, zq_f, zq_g, zq_h, zq_i, zq_j, zq_k, zq_l, zq_m, zq_n, zq_o, zq_p, zq_q, zq_r, zq_s, zq_t, zq_u, zq_v, zq_w, zq_x, zq_y, zq_z, zq_A, zq_B, zq_C, zq_D, zq_E, zq_F, zq_G, zq_H, zq_I, zq_J, zq_K, zq_L, ↓zq_M, ↓zq_N, ↓zq_O, ↓zq_P, ↓zq_Q, ↓zq_R, zq_S, zq_T, zq_U, zq_V, zq_W, zq_X, zq_Y, zq_Z, zq_0, zq_1, zq_2, zq_3, zq_4, zq_5, ↓zq_6, ↓zq_7, ↓zq_8, ↓zq_9, ↓zq_aa, zq_ab, zq_ac, zq_ad, zq_ae, zq_af, zq_ag, ↓zq_ah, ↓zq_ai, ↓zq_aj, zq_ak, ↓zq_al, ↓zq_am, e_b1, e_b2, x_o1, x_o2, ka, c1, c1_n, c2, c2_n]
  · refine ⟨r, ?_, hr⟩
    rw [r_ent (show e_rok 198 [192, p, c, sh] = true from decide_eq_true r_ref)]
    show e_tv E_C (E_V 198) e_t198_0 [192, p, c, sh, 0, 0, 0, 0, 0] M = _
    unfold e_t198_0
    simp [zq_a, zq_b, zq_c, zq_d, zq_e, zq_f, zq_g, zq_h, zq_i, zq_j, zq_k, zq_l, zq_m, zq_n, zq_o, zq_p, zq_q, zq_r, zq_s, zq_t, zq_u, zq_v, zq_w, zq_x, zq_y, zq_z, zq_A, zq_B, zq_C, zq_D, zq_E, zq_F, zq_G, zq_H, zq_I, zq_J, zq_K, zq_L, ↓zq_M, ↓zq_N, ↓zq_O, ↓zq_P, ↓zq_Q, ↓zq_R, zq_S, zq_T, zq_U, zq_V, zq_W, zq_X, zq_Y, zq_Z, zq_0, zq_1, zq_2, zq_3, zq_4, zq_5, ↓zq_6, ↓zq_7, ↓zq_8, ↓zq_9, ↓zq_aa, zq_ab, zq_ac, zq_ad, zq_ae, zq_af, zq_ag, ↓zq_ah, ↓zq_ai, ↓zq_aj, zq_ak, ↓zq_al, ↓zq_am, e_b1, e_b2, x_o1, x_o2, ka, c1, c1_n, km, w1, k]
end
section
/-! PUSH of GROUPS and ROWS, CURRENTS, by the reference -/
theorem r_lo_p {g : Int → Int} {b x : Int} (hb : b ≤ 40) (hx : r_cl g b x ∨ r_rw g b x) : 0 ≤ x ∧ x < 40 := by
  rcases hx with h | h
  · exact ⟨h.1, by have := h.2.1; omega⟩
  · exact ⟨h.1, by have := h.2.1; omega⟩
theorem r_group_loop {p g c : Int} {M : EM} (hE : r_E M) (hp : 0 ≤ p ∧ p < 40) (hn : r_G M (28 * p + 2) ≤ 8) (hm : ∀ k, 0 ≤ k → k < r_G M (28 * p + 2) → r_cl (r_G M) p (r_G M (28 * p + 3 + k))) : ∀ (m : Nat) (x4 x5 : Int), (8 - x5).toNat ≤ m → 0 ≤ x5 → (-2147483648 ≤ x4 ∧ x4 ≤ 2147483647) → ∃ r, E_V 199 6 [192, p, g, c, x4, x5] M = some (r, M) ∧ -2147483648 ≤ r ∧ r ≤ 2147483647 := by
  have km : E_C 171 [192, p] M = some (r_G M (28 * p + 2), M) := r_many hp
  have hend : ∀ x4 x5, ¬ (x5 < r_G M (28 * p + 2)) → (-2147483648 ≤ x4 ∧ x4 ≤ 2147483647) → ∃ r, E_V 199 6 [192, p, g, c, x4, x5] M = some (r, M) ∧ -2147483648 ≤ r ∧ r ≤ 2147483647 := by
    intro x4 x5 q h4
    refine ⟨x4, ?_, h4⟩
    rw [E_V_eq]
    show e_tv E_C (E_V 199) e_t199_6 [192, p, g, c, x4, x5] M = _
    unfold e_t199_6
    simp [zq_a, zq_b, zq_c, zq_d, zq_e, zq_f, zq_g, zq_h, zq_i, zq_j, zq_k, zq_l, zq_m, zq_n, zq_o, zq_p, zq_q, zq_r, zq_s, zq_t, zq_u, zq_v, zq_w, zq_x, zq_y, zq_z, zq_A, zq_B, zq_C, zq_D, zq_E, zq_F, zq_G, zq_H, zq_I, zq_J, zq_K, zq_L, ↓zq_M, ↓zq_N, ↓zq_O, ↓zq_P, ↓zq_Q, ↓zq_R, zq_S, zq_T, zq_U, zq_V, zq_W, zq_X, zq_Y, zq_Z, zq_0, zq_1, zq_2, zq_3, zq_4, zq_5, ↓zq_6, ↓zq_7, ↓zq_8, ↓zq_9, ↓zq_aa, zq_ab, zq_ac, zq_ad, zq_ae, zq_af, zq_ag, ↓zq_ah, ↓zq_ai, ↓zq_aj, zq_ak, ↓zq_al, ↓zq_am, e_b1, e_b2, x_o1, x_o2, q, km]
  intro m
  induction m with
  | zero => intro x4 x5 h5 h0 h4; exact hend x4 x5 (by omega) h4
  | succ m ih =>
    intro x4 x5 h5 h0 h4
    rcases x_lt x5 (r_G M (28 * p + 2)) with ⟨q, q_n⟩ | ⟨q, q_n⟩
    · have w1 : e_w (28 * p) = 28 * p := a_w_id (by omega) (by omega)
      have w2 : e_w (28 * p + 11) = 28 * p + 11 := a_w_id (by omega) (by omega)
      have w3 : e_w (28 * p + 11 + x5) = 28 * p + 11 + x5 := a_w_id (by omega) (by omega)
      have w4 : e_w (x5 + 1) = x5 + 1 := a_w_id (by omega) (by omega)
      have l1 : e_op 60 [193, 28 * p + 11 + x5] M = some (r_G M (28 * p + 11 + x5)) := r_rd (by omega) (by omega)
      have ko : E_C 172 [192, p, x5] M = some (r_G M (28 * p + 3 + x5), M) := r_of hp ⟨h0, by omega⟩
      obtain ⟨m1, m2, m3, m4, m5, m6⟩ := hm x5 h0 q
      have hy : 0 ≤ r_G M (28 * p + 3 + x5) ∧ r_G M (28 * p + 3 + x5) < 40 := ⟨m1, by omega⟩
      obtain ⟨s, ks, hs⟩ := r_share hE hy m6
      obtain ⟨v, kv, hv⟩ := r_cellPush (c := c) (sh := s) (M := M) hy ⟨m4, m5⟩
      by_cases c1 : r_G M (28 * p + 11 + x5) = g
      · obtain ⟨r, k, hr⟩ := ih (e_w (x4 + v)) (x5 + 1) (by omega) (by omega) (a_w _)
        refine ⟨r, ?_, hr⟩
        rw [E_V_eq]
        show e_tv E_C (E_V 199) e_t199_6 [192, p, g, c, x4, x5] M = _
        unfold e_t199_6
        simp [zq_a, zq_b, zq_c, zq_d, zq_e, zq_f, zq_g, zq_h, zq_i, zq_j, zq_k, zq_l, zq_m, zq_n, zq_o, zq_p, zq_q, zq_r, zq_s, zq_t, zq_u, zq_v, zq_w, zq_x, zq_y, zq_z, zq_A, zq_B, zq_C, zq_D, zq_E, zq_F, zq_G, zq_H, zq_I, zq_J, zq_K, zq_L, ↓zq_M, ↓zq_N, ↓zq_O, ↓zq_P, ↓zq_Q, ↓zq_R, zq_S, zq_T, zq_U, zq_V, zq_W, zq_X, zq_Y, zq_Z, zq_0, zq_1, zq_2, zq_3, zq_4, zq_5, ↓zq_6, ↓zq_7, ↓zq_8, ↓zq_9, ↓zq_aa, zq_ab, zq_ac, zq_ad, zq_ae, zq_af, zq_ag, ↓zq_ah, ↓zq_ai, ↓zq_aj, zq_ak, ↓zq_al, ↓zq_am, e_b1, e_b2, x_o1, x_o2, r_O0, q, q_n, km, w1, w2, w3, w4, l1, ko, ks, kv, c1, k]
      · obtain ⟨r, k, hr⟩ := ih (e_w (x4 + 0)) (x5 + 1) (by omega) (by omega) (a_w _)
        refine ⟨r, ?_, hr⟩
        rw [Int.add_zero] at k
        rw [E_V_eq]
        show e_tv E_C (E_V 199) e_t199_6 [192, p, g, c, x4, x5] M = _
        unfold e_t199_6
        simp [zq_a, zq_b, zq_c, zq_d, zq_e, zq_f, zq_g, zq_h, zq_i, zq_j, zq_k, zq_l, zq_m, zq_n, zq_o, zq_p, zq_q, zq_r, zq_s, zq_t, zq_u, zq_v, zq_w, zq_x, zq_y, zq_z, zq_A, zq_B, zq_C, zq_D, zq_E, zq_F, zq_G, zq_H, zq_I, zq_J, zq_K, zq_L, ↓zq_M, ↓zq_N, ↓zq_O, ↓zq_P, ↓zq_Q, ↓zq_R, zq_S, zq_T, zq_U, zq_V, zq_W, zq_X, zq_Y, zq_Z, zq_0, zq_1, zq_2, zq_3, zq_4, zq_5, ↓zq_6, ↓zq_7, ↓zq_8, ↓zq_9, ↓zq_aa, zq_ab, zq_ac, zq_ad, zq_ae, zq_af, zq_ag, ↓zq_ah, ↓zq_ai, ↓zq_aj, zq_ak, ↓zq_al, ↓zq_am, e_b1, e_b2, x_o1, x_o2, r_O0, q, q_n, km, w1, w2, w3, w4, l1, c1, k]
    · exact hend x4 x5 q h4
theorem r_groupPush {p g c : Int} {M : EM} (hE : r_E M) (hp : 0 ≤ p ∧ p < 40) (hn : r_G M (28 * p + 2) ≤ 8) (hm : ∀ k, 0 ≤ k → k < r_G M (28 * p + 2) → r_cl (r_G M) p (r_G M (28 * p + 3 + k))) : r_P 199 [192, p, g, c] M := by
  obtain ⟨r, k, hr⟩ := r_group_loop (g := g) (c := c) hE hp hn hm 8 0 0 (by decide) (by decide) (by decide)
  refine ⟨r, ?_, hr⟩
  rw [r_ent (show e_rok 199 [192, p, g, c] = true from decide_eq_true r_ref)]
  show e_tv E_C (E_V 199) e_t199_0 [192, p, g, c, 0, 0] M = _
  unfold e_t199_0
  simp [zq_a, zq_b, zq_c, zq_d, zq_e, zq_f, zq_g, zq_h, zq_i, zq_j, zq_k, zq_l, zq_m, zq_n, zq_o, zq_p, zq_q, zq_r, zq_s, zq_t, zq_u, zq_v, zq_w, zq_x, zq_y, zq_z, zq_A, zq_B, zq_C, zq_D, zq_E, zq_F, zq_G, zq_H, zq_I, zq_J, zq_K, zq_L, ↓zq_M, ↓zq_N, ↓zq_O, ↓zq_P, ↓zq_Q, ↓zq_R, zq_S, zq_T, zq_U, zq_V, zq_W, zq_X, zq_Y, zq_Z, zq_0, zq_1, zq_2, zq_3, zq_4, zq_5, ↓zq_6, ↓zq_7, ↓zq_8, ↓zq_9, ↓zq_aa, zq_ab, zq_ac, zq_ad, zq_ae, zq_af, zq_ag, ↓zq_ah, ↓zq_ai, ↓zq_aj, zq_ak, ↓zq_al, ↓zq_am, e_b1, e_b2, x_o1, x_o2, k]
theorem r_hasDiode {p g : Int} {M : EM} (hp : 0 ≤ p ∧ p < 40) (hg : 0 ≤ g ∧ g < 8) : ∃ r, E_C 200 [192, p, g] M = some (r, M) ∧ (r = 0 ∨ r = 1) := by
  have w1 : e_w (28 * p) = 28 * p := a_w_id (by omega) (by omega)
  have w2 : e_w (28 * p + 20) = 28 * p + 20 := a_w_id (by omega) (by omega)
  have w3 : e_w (28 * p + 20 + g) = 28 * p + 20 + g := a_w_id (by omega) (by omega)
  have w4 : e_w (8 * p) = 8 * p := a_w_id (by omega) (by omega)
  have w5 : e_w (8 * p + g) = 8 * p + g := a_w_id (by omega) (by omega)
  have l1 : e_op 60 [193, 28 * p + 20 + g] M = some (r_G M (28 * p + 20 + g)) := r_rd (by omega) (by omega)
  by_cases c1 : r_G M (28 * p + 20 + g) = 1
  · by_cases c2 : M 192 24 = 8 * p + g
    · refine ⟨0, ?_, Or.inl rfl⟩
      rw [r_ent (show e_rok 200 [192, p, g] = true from decide_eq_true r_ref)]
      show e_tv E_C (E_V 200) e_t200_0 [192, p, g] M = _
      unfold e_t200_0
      simp [zq_a, zq_b, zq_c, zq_d, zq_e, zq_f, zq_g, zq_h, zq_i, zq_j, zq_k, zq_l, zq_m, zq_n, zq_o, zq_p, zq_q, zq_r, zq_s, zq_t, zq_u, zq_v, zq_w, zq_x, zq_y, zq_z, zq_A, zq_B, zq_C, zq_D, zq_E, zq_F, zq_G, zq_H, zq_I, zq_J, zq_K, zq_L, ↓zq_M, ↓zq_N, ↓zq_O, ↓zq_P, ↓zq_Q, ↓zq_R, zq_S, zq_T, zq_U, zq_V, zq_W, zq_X, zq_Y, zq_Z, zq_0, zq_1, zq_2, zq_3, zq_4, zq_5, ↓zq_6, ↓zq_7, ↓zq_8, ↓zq_9, ↓zq_aa, zq_ab, zq_ac, zq_ad, zq_ae, zq_af, zq_ag, ↓zq_ah, ↓zq_ai, ↓zq_aj, zq_ak, ↓zq_al, ↓zq_am, e_b1, e_b2, x_o1, x_o2, r_O0, r_F24, w1, w2, w3, w4, w5, l1, c1, c2]
    · refine ⟨1, ?_, Or.inr rfl⟩
      rw [r_ent (show e_rok 200 [192, p, g] = true from decide_eq_true r_ref)]
      show e_tv E_C (E_V 200) e_t200_0 [192, p, g] M = _
      unfold e_t200_0
      simp [zq_a, zq_b, zq_c, zq_d, zq_e, zq_f, zq_g, zq_h, zq_i, zq_j, zq_k, zq_l, zq_m, zq_n, zq_o, zq_p, zq_q, zq_r, zq_s, zq_t, zq_u, zq_v, zq_w, zq_x, zq_y, zq_z, zq_A, zq_B, zq_C, zq_D, zq_E, zq_F, zq_G, zq_H, zq_I, zq_J, zq_K, zq_L, ↓zq_M, ↓zq_N, ↓zq_O, ↓zq_P, ↓zq_Q, ↓zq_R, zq_S, zq_T, zq_U, zq_V, zq_W, zq_X, zq_Y, zq_Z, zq_0, zq_1, zq_2, zq_3, zq_4, zq_5, ↓zq_6, ↓zq_7, ↓zq_8, ↓zq_9, ↓zq_aa, zq_ab, zq_ac, zq_ad, zq_ae, zq_af, zq_ag, ↓zq_ah, ↓zq_ai, ↓zq_aj, zq_ak, ↓zq_al, ↓zq_am, e_b1, e_b2, x_o1, x_o2, r_O0, r_F24, w1, w2, w3, w4, w5, l1, c1, c2]
  · refine ⟨0, ?_, Or.inl rfl⟩
    rw [r_ent (show e_rok 200 [192, p, g] = true from decide_eq_true r_ref)]
    show e_tv E_C (E_V 200) e_t200_0 [192, p, g] M = _
    unfold e_t200_0
    simp [zq_a, zq_b, zq_c, zq_d, zq_e, zq_f, zq_g, zq_h, zq_i, zq_j, zq_k, zq_l, zq_m, zq_n, zq_o, zq_p, zq_q, zq_r, zq_s, zq_t, zq_u, zq_v, zq_w, zq_x, zq_y, zq_z, zq_A, zq_B, zq_C, zq_D, zq_E, zq_F, zq_G, zq_H, zq_I, zq_J, zq_K, zq_L, ↓zq_M, ↓zq_N, ↓zq_O, ↓zq_P, ↓zq_Q, ↓zq_R, zq_S, zq_T, zq_U, zq_V, zq_W, zq_X, zq_Y, zq_Z, zq_0, zq_1, zq_2, zq_3, zq_4, zq_5, ↓zq_6, ↓zq_7, ↓zq_8, ↓zq_9, ↓zq_aa, zq_ab, zq_ac, zq_ad, zq_ae, zq_af, zq_ag, ↓zq_ah, ↓zq_ai, ↓zq_aj, zq_ak, ↓zq_al, ↓zq_am, e_b1, e_b2, x_o1, x_o2, r_O0, w1, w2, w3, l1, c1]
theorem r_low_loop {p c : Int} {M : EM} (hE : r_E M) (hp : 0 ≤ p ∧ p < 40) (hn : r_G M (28 * p + 2) ≤ 8) (hg : r_G M (28 * p + 19) ≤ 8) (hm : ∀ k, 0 ≤ k → k < r_G M (28 * p + 2) → r_cl (r_G M) p (r_G M (28 * p + 3 + k))) : ∀ (m : Nat) (x3 x4 x5 : Int), (8 - x4).toNat ≤ m → 0 ≤ x4 → (-2147483648 ≤ x3 ∧ x3 ≤ 2147483647) → ∃ r, E_V 201 25 [192, p, c, x3, x4, x5] M = some (r, M) ∧ -2147483648 ≤ r ∧ r ≤ 2147483647 := by
  have w1 : e_w (28 * p) = 28 * p := a_w_id (by omega) (by omega)
  have w2 : e_w (28 * p + 19) = 28 * p + 19 := a_w_id (by omega) (by omega)
  have l1 : e_op 60 [193, 28 * p + 19] M = some (r_G M (28 * p + 19)) := r_rd (by omega) (by omega)
  have hend : ∀ x3 x4 x5, ¬ (x4 < r_G M (28 * p + 19)) → (-2147483648 ≤ x3 ∧ x3 ≤ 2147483647) → ∃ r, E_V 201 25 [192, p, c, x3, x4, x5] M = some (r, M) ∧ -2147483648 ≤ r ∧ r ≤ 2147483647 := by
    intro x3 x4 x5 q h4
    refine ⟨x3, ?_, h4⟩
    rw [E_V_eq]
    show e_tv E_C (E_V 201) e_t201_25 [192, p, c, x3, x4, x5] M = _
    unfold e_t201_25
    simp [zq_a, zq_b, zq_c, zq_d, zq_e, zq_f, zq_g, zq_h, zq_i, zq_j, zq_k, zq_l, zq_m, zq_n, zq_o, zq_p, zq_q, zq_r, zq_s, zq_t, zq_u, zq_v, zq_w, zq_x, zq_y, zq_z, zq_A, zq_B, zq_C, zq_D, zq_E, zq_F, zq_G, zq_H, zq_I, zq_J, zq_K, zq_L, ↓zq_M, ↓zq_N, ↓zq_O, ↓zq_P, ↓zq_Q, ↓zq_R, zq_S, zq_T, zq_U, zq_V, zq_W, zq_X, zq_Y, zq_Z, zq_0, zq_1, zq_2, zq_3, zq_4, zq_5, ↓zq_6, ↓zq_7, ↓zq_8, ↓zq_9, ↓zq_aa, zq_ab, zq_ac, zq_ad, zq_ae, zq_af, zq_ag, ↓zq_ah, ↓zq_ai, ↓zq_aj, zq_ak, ↓zq_al, ↓zq_am, e_b1, e_b2, x_o1, x_o2, r_O0, w1, w2, l1, q]
  intro m
  induction m with
  | zero => intro x3 x4 x5 h5 h0 h4; exact hend x3 x4 x5 (by omega) h4
  | succ m ih =>
    intro x3 x4 x5 h5 h0 h4
    rcases x_lt x4 (r_G M (28 * p + 19)) with ⟨q, q_n⟩ | ⟨q, q_n⟩
    · have w4 : e_w (x4 + 1) = x4 + 1 := a_w_id (by omega) (by omega)
      obtain ⟨u, ku, hu⟩ := r_groupPush (g := x4) (c := c) hE hp hn hm
      obtain ⟨d, kd, hd⟩ := r_hasDiode (p := p) (g := x4) (M := M) hp ⟨h0, by omega⟩
      by_cases c1 : d = 0
      · obtain ⟨r, k, hr⟩ := ih (e_w (x3 + u)) (x4 + 1) u (by omega) (by omega) (a_w _)
        refine ⟨r, ?_, hr⟩
        rw [E_V_eq]
        show e_tv E_C (E_V 201) e_t201_25 [192, p, c, x3, x4, x5] M = _
        unfold e_t201_25
        simp [zq_a, zq_b, zq_c, zq_d, zq_e, zq_f, zq_g, zq_h, zq_i, zq_j, zq_k, zq_l, zq_m, zq_n, zq_o, zq_p, zq_q, zq_r, zq_s, zq_t, zq_u, zq_v, zq_w, zq_x, zq_y, zq_z, zq_A, zq_B, zq_C, zq_D, zq_E, zq_F, zq_G, zq_H, zq_I, zq_J, zq_K, zq_L, ↓zq_M, ↓zq_N, ↓zq_O, ↓zq_P, ↓zq_Q, ↓zq_R, zq_S, zq_T, zq_U, zq_V, zq_W, zq_X, zq_Y, zq_Z, zq_0, zq_1, zq_2, zq_3, zq_4, zq_5, ↓zq_6, ↓zq_7, ↓zq_8, ↓zq_9, ↓zq_aa, zq_ab, zq_ac, zq_ad, zq_ae, zq_af, zq_ag, ↓zq_ah, ↓zq_ai, ↓zq_aj, zq_ak, ↓zq_al, ↓zq_am, e_b1, e_b2, x_o1, x_o2, r_O0, q, q_n, w1, w2, w4, l1, ku, kd, c1, k]
      · rcases x_lt u (-1) with ⟨c2, c2_n⟩ | ⟨c2, c2_n⟩
        · obtain ⟨r, k, hr⟩ := ih (e_w (x3 + -1)) (x4 + 1) u (by omega) (by omega) (a_w _)
          refine ⟨r, ?_, hr⟩
          rw [E_V_eq]
          show e_tv E_C (E_V 201) e_t201_25 [192, p, c, x3, x4, x5] M = _
          unfold e_t201_25
          simp [zq_a, zq_b, zq_c, zq_d, zq_e, zq_f, zq_g, zq_h, zq_i, zq_j, zq_k, zq_l, zq_m, zq_n, zq_o, zq_p, zq_q, zq_r, zq_s, zq_t, zq_u, zq_v, zq_w, zq_x, zq_y, zq_z, zq_A, zq_B, zq_C, zq_D, zq_E, zq_F, zq_G, zq_H, zq_I, zq_J, zq_K, zq_L, ↓zq_M, ↓zq_N, ↓zq_O, ↓zq_P, ↓zq_Q, ↓zq_R, zq_S, zq_T, zq_U, zq_V, zq_W, zq_X, zq_Y, zq_Z, zq_0, zq_1, zq_2, zq_3, zq_4, zq_5, ↓zq_6, ↓zq_7, ↓zq_8, ↓zq_9, ↓zq_aa, zq_ab, zq_ac, zq_ad, zq_ae, zq_af, zq_ag, ↓zq_ah, ↓zq_ai, ↓zq_aj, zq_ak, ↓zq_al, ↓zq_am, e_b1, e_b2, x_o1, x_o2, r_O0, q, q_n, w1, w2, w4, l1, ku, kd, c1, c2, c2_n, k]
        · obtain ⟨r, k, hr⟩ := ih (e_w (x3 + u)) (x4 + 1) u (by omega) (by omega) (a_w _)
          refine ⟨r, ?_, hr⟩
          rw [E_V_eq]
          show e_tv E_C (E_V 201) e_t201_25 [192, p, c, x3, x4, x5] M = _
          unfold e_t201_25
          simp [zq_a, zq_b, zq_c, zq_d, zq_e, zq_f, zq_g, zq_h, zq_i, zq_j, zq_k, zq_l, zq_m, zq_n, zq_o, zq_p, zq_q, zq_r, zq_s, zq_t, zq_u, zq_v, zq_w, zq_x, zq_y, zq_z, zq_A, zq_B, zq_C, zq_D, zq_E, zq_F, zq_G, zq_H, zq_I, zq_J, zq_K, zq_L, ↓zq_M, ↓zq_N, ↓zq_O, ↓zq_P, ↓zq_Q, ↓zq_R, zq_S, zq_T, zq_U, zq_V, zq_W, zq_X, zq_Y, zq_Z, zq_0, zq_1, zq_2, zq_3, zq_4, zq_5, ↓zq_6, ↓zq_7, ↓zq_8, ↓zq_9, ↓zq_aa, zq_ab, zq_ac, zq_ad, zq_ae, zq_af, zq_ag, ↓zq_ah, ↓zq_ai, ↓zq_aj, zq_ak, ↓zq_al, ↓zq_am, e_b1, e_b2, x_o1, x_o2, r_O0, q, q_n, w1, w2, w4, l1, ku, kd, c1, c2, c2_n, k]
    · exact hend x3 x4 x5 q h4
theorem r_lowPush {b p c : Int} {M : EM} (hE : r_E M) (hb : b ≤ 40) (hp : r_cl (r_G M) b p ∨ r_rw (r_G M) b p) : r_P 201 [192, p, c] M := by
  have h40 := r_lo_p hb hp
  have kk : E_C 170 [192, p] M = some (r_G M (28 * p), M) := r_kind h40
  rcases hp with hp | hp
  · obtain ⟨a1, a2, a3, a4, a5, a6⟩ := hp
    obtain ⟨s, ks, hs⟩ := r_share hE h40 a6
    obtain ⟨v, kv, hv⟩ := r_cellPush (c := c) (sh := s) (M := M) h40 ⟨a4, a5⟩
    refine ⟨v, ?_, hv⟩
    rw [r_ent (show e_rok 201 [192, p, c] = true from decide_eq_true r_ref)]
    show e_tv E_C (E_V 201) e_t201_0 [192, p, c, 0, 0, 0] M = _
    unfold e_t201_0
    simp [zq_a, zq_b, zq_c, zq_d, zq_e, zq_f, zq_g, zq_h, zq_i, zq_j, zq_k, zq_l, zq_m, zq_n, zq_o, zq_p, zq_q, zq_r, zq_s, zq_t, zq_u, zq_v, zq_w, zq_x, zq_y, zq_z, zq_A, zq_B, zq_C, zq_D, zq_E, zq_F, zq_G, zq_H, zq_I, zq_J, zq_K, zq_L, ↓zq_M, ↓zq_N, ↓zq_O, ↓zq_P, ↓zq_Q, ↓zq_R, zq_S, zq_T, zq_U, zq_V, zq_W, zq_X, zq_Y, zq_Z, zq_0, zq_1, zq_2, zq_3, zq_4, zq_5, ↓zq_6, ↓zq_7, ↓zq_8, ↓zq_9, ↓zq_aa, zq_ab, zq_ac, zq_ad, zq_ae, zq_af, zq_ag, ↓zq_ah, ↓zq_ai, ↓zq_aj, zq_ak, ↓zq_al, ↓zq_am, e_b1, e_b2, x_o1, x_o2, kk, a3, ks, kv]
  · obtain ⟨a1, a2, a3, a4, a5, a6, a7, a8⟩ := hp
    obtain ⟨r, k, hr⟩ := r_low_loop (c := c) hE h40 a5 a7 a8 8 0 0 0 (by decide) (by decide) (by decide)
    refine ⟨r, ?_, hr⟩
    rw [r_ent (show e_rok 201 [192, p, c] = true from decide_eq_true r_ref)]
    show e_tv E_C (E_V 201) e_t201_0 [192, p, c, 0, 0, 0] M = _
    unfold e_t201_0
    simp [zq_a, zq_b, zq_c, zq_d, zq_e, zq_f, zq_g, zq_h, zq_i, zq_j, zq_k, zq_l, zq_m, zq_n, zq_o, zq_p, zq_q, zq_r, zq_s, zq_t, zq_u, zq_v, zq_w, zq_x, zq_y, zq_z, zq_A, zq_B, zq_C, zq_D, zq_E, zq_F, zq_G, zq_H, zq_I, zq_J, zq_K, zq_L, ↓zq_M, ↓zq_N, ↓zq_O, ↓zq_P, ↓zq_Q, ↓zq_R, zq_S, zq_T, zq_U, zq_V, zq_W, zq_X, zq_Y, zq_Z, zq_0, zq_1, zq_2, zq_3, zq_4, zq_5, ↓zq_6, ↓zq_7, ↓zq_8, ↓zq_9, ↓zq_aa, zq_ab, zq_ac, zq_ad, zq_ae, zq_af, zq_ag, ↓zq_ah, ↓zq_ai, ↓zq_aj, zq_ak, ↓zq_al, ↓zq_am, e_b1, e_b2, x_o1, x_o2, kk, a3, k]
end
