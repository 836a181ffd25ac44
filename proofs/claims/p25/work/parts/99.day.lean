/-! strength, hour, day, without, loss of the reference -/
theorem r_isGap {k : Int} {M : EM} (hk : 0 ≤ k ∧ k < 120) : ∃ r, E_C 226 [192, k] M = some (r, M) ∧ (r = 0 ∨ r = 1) := by
  have w1 : e_w (1202 + k) = 1202 + k := a_w_id (by omega) (by omega)
  have l1 : e_op 60 [193, 1202 + k] M = some (r_G M (1202 + k)) := r_rd (by omega) (by omega)
  have l2 : e_op 60 [193, 1201] M = some (r_G M 1201) := r_rd (by decide) (by decide)
  suffices h : ∃ z, E_C 226 [192, k] M = some (if r_G M (1202 + k) = z then 1 else 0, M) by
    obtain ⟨z, h⟩ := h
    by_cases c : r_G M (1202 + k) = z
    · exact ⟨1, by rw [h, if_pos c], Or.inr rfl⟩
    · exact ⟨0, by rw [h, if_neg c], Or.inl rfl⟩
  by_cases c1 : r_G M 1201 = 0
  · refine ⟨-128, ?_⟩
    rw [r_ent (show e_rok 226 [192, k] = true from decide_eq_true r_ref)]
    show e_tv E_C (E_V 226) e_t226_0 [192, k] M = _
    unfold e_t226_0
    by_cases c : r_G M (1202 + k) = -128
    · simp [zq_a, zq_b, zq_c, zq_d, zq_e, zq_f, zq_g, zq_h, zq_i, zq_j, zq_k, zq_l, zq_m, zq_n, zq_o, zq_p, zq_q, zq_r, zq_s, zq_t, zq_u, zq_v, zq_w, zq_x, zq_y, zq_z, zq_A, zq_B, zq_C, zq_D, zq_E, zq_F, zq_G, zq_H, zq_I, zq_J, zq_K, zq_L, ↓zq_M, ↓zq_N, ↓zq_O, ↓zq_P, ↓zq_Q, ↓zq_R, zq_S, zq_T, zq_U, zq_V, zq_W, zq_X, zq_Y, zq_Z, zq_0, zq_1, zq_2, zq_3, zq_4, zq_5, ↓zq_6, ↓zq_7, ↓zq_8, ↓zq_9, ↓zq_aa, zq_ab, zq_ac, zq_ad, zq_ae, zq_af, zq_ag, ↓zq_ah, ↓zq_ai, ↓zq_aj, zq_ak, ↓zq_al, ↓zq_am, e_b1, e_b2, x_o1, x_o2, r_O0, w1, l1, l2, c1, c]
    · simp [zq_a, zq_b, zq_c, zq_d, zq_e, zq_f, zq_g, zq_h, zq_i, zq_j, zq_k, zq_l, zq_m, zq_n, zq_o, zq_p, zq_q, zq_r, zq_s, zq_t, zq_u, zq_v, zq_w, zq_x, zq_y, zq_z, zq_A, zq_B, zq_C, zq_D, zq_E, zq_F, zq_G, zq_H, zq_I, zq_J, zq_K, zq_L, ↓zq_M, ↓zq_N, ↓zq_O, ↓zq_P, ↓zq_Q, ↓zq_R, zq_S, zq_T, zq_U, zq_V, zq_W, zq_X, zq_Y, zq_Z, zq_0, zq_1, zq_2, zq_3, zq_4, zq_5, ↓zq_6, ↓zq_7, ↓zq_8, ↓zq_9, ↓zq_aa, zq_ab, zq_ac, zq_ad, zq_ae, zq_af, zq_ag, ↓zq_ah, ↓zq_ai, ↓zq_aj, zq_ak, ↓zq_al, ↓zq_am, e_b1, e_b2, x_o1, x_o2, r_O0, w1, l1, l2, c1, c]
  · by_cases c2 : r_G M 1201 = 1
    · refine ⟨-32768, ?_⟩
      rw [r_ent (show e_rok 226 [192, k] = true from decide_eq_true r_ref)]
      show e_tv E_C (E_V 226) e_t226_0 [192, k] M = _
      unfold e_t226_0
      by_cases c : r_G M (1202 + k) = -32768
      · simp [zq_a, zq_b, zq_c, zq_d, zq_e, zq_f, zq_g, zq_h, zq_i, zq_j, zq_k, zq_l, zq_m, zq_n, zq_o, zq_p, zq_q, zq_r, zq_s, zq_t, zq_u, zq_v, zq_w, zq_x, zq_y, zq_z, zq_A, zq_B, zq_C, zq_D, zq_E, zq_F, zq_G, zq_H, zq_I, zq_J, zq_K, zq_L, ↓zq_M, ↓zq_N, ↓zq_O, ↓zq_P, ↓zq_Q, ↓zq_R, zq_S, zq_T, zq_U, zq_V, zq_W, zq_X, zq_Y, zq_Z, zq_0, zq_1, zq_2, zq_3, zq_4, zq_5, ↓zq_6, ↓zq_7, ↓zq_8, ↓zq_9, ↓zq_aa, zq_ab, zq_ac, zq_ad, zq_ae, zq_af, zq_ag, ↓zq_ah, ↓zq_ai, ↓zq_aj, zq_ak, ↓zq_al, ↓zq_am, e_b1, e_b2, x_o1, x_o2, r_O0, w1, l1, l2, c2, c]
      · simp [zq_a, zq_b, zq_c, zq_d, zq_e, zq_f, zq_g, zq_h, zq_i, zq_j, zq_k, zq_l, zq_m, zq_n, zq_o, zq_p, zq_q, zq_r, zq_s, zq_t, zq_u, zq_v, zq_w, zq_x, zq_y, zq_z, zq_A, zq_B, zq_C, zq_D, zq_E, zq_F, zq_G, zq_H, zq_I, zq_J, zq_K, zq_L, ↓zq_M, ↓zq_N, ↓zq_O, ↓zq_P, ↓zq_Q, ↓zq_R, zq_S, zq_T, zq_U, zq_V, zq_W, zq_X, zq_Y, zq_Z, zq_0, zq_1, zq_2, zq_3, zq_4, zq_5, ↓zq_6, ↓zq_7, ↓zq_8, ↓zq_9, ↓zq_aa, zq_ab, zq_ac, zq_ad, zq_ae, zq_af, zq_ag, ↓zq_ah, ↓zq_ai, ↓zq_aj, zq_ak, ↓zq_al, ↓zq_am, e_b1, e_b2, x_o1, x_o2, r_O0, w1, l1, l2, c2, c]
    · refine ⟨-2147483648, ?_⟩
      rw [r_ent (show e_rok 226 [192, k] = true from decide_eq_true r_ref)]
      show e_tv E_C (E_V 226) e_t226_0 [192, k] M = _
      unfold e_t226_0
      by_cases c : r_G M (1202 + k) = -2147483648
      · simp [zq_a, zq_b, zq_c, zq_d, zq_e, zq_f, zq_g, zq_h, zq_i, zq_j, zq_k, zq_l, zq_m, zq_n, zq_o, zq_p, zq_q, zq_r, zq_s, zq_t, zq_u, zq_v, zq_w, zq_x, zq_y, zq_z, zq_A, zq_B, zq_C, zq_D, zq_E, zq_F, zq_G, zq_H, zq_I, zq_J, zq_K, zq_L, ↓zq_M, ↓zq_N, ↓zq_O, ↓zq_P, ↓zq_Q, ↓zq_R, zq_S, zq_T, zq_U, zq_V, zq_W, zq_X, zq_Y, zq_Z, zq_0, zq_1, zq_2, zq_3, zq_4, zq_5, ↓zq_6, ↓zq_7, ↓zq_8, ↓zq_9, ↓zq_aa, zq_ab, zq_ac, zq_ad, zq_ae, zq_af, zq_ag, ↓zq_ah, ↓zq_ai, ↓zq_aj, zq_ak, ↓zq_al, ↓zq_am, e_b1, e_b2, x_o1, x_o2, r_O0, w1, l1, l2, c1, c2, c]
      · simp [zq_a, zq_b, zq_c, zq_d, zq_e, zq_f, zq_g, zq_h, zq_i, zq_j, zq_k, zq_l, zq_m, zq_n, zq_o, zq_p, zq_q, zq_r, zq_s, zq_t, zq_u, zq_v, zq_w, zq_x, zq_y, zq_z, zq_A, zq_B, zq_C, zq_D, zq_E, zq_F, zq_G, zq_H, zq_I, zq_J, zq_K, zq_L, ↓zq_M, ↓zq_N, ↓zq_O, ↓zq_P, ↓zq_Q, ↓zq_R, zq_S, zq_T, zq_U, zq_V, zq_W, zq_X, zq_Y, zq_Z, zq_0, zq_1, zq_2, zq_3, zq_4, zq_5, ↓zq_6, ↓zq_7, ↓zq_8, ↓zq_9, ↓zq_aa, zq_ab, zq_ac, zq_ad, zq_ae, zq_af, zq_ag, ↓zq_ah, ↓zq_ai, ↓zq_aj, zq_ak, ↓zq_al, ↓zq_am, e_b1, e_b2, x_o1, x_o2, r_O0, w1, l1, l2, c1, c2, c]
def r_s01 (r : Int) : Prop := 0 ≤ r ∧ r ≤ 100
theorem r_st_end {k x2 x3 y4 y6 y8 : Int} {M : EM} (hz : 0 ≤ r_G M 1200 ∧ r_G M 1200 ≤ 120) (h2 : x2 < 120) (h3 : 0 ≤ x3 ∧ x3 ≤ r_G M 1200) (hq : ¬ (x3 < r_G M 1200 ∧ E_C 226 [192, x3] M ≠ some (0, M))) : ∃ r, E_V 227 36 [192, k, x2, x3, y4, 0, y6, 0, y8, 0] M = some (r, M) ∧ r_s01 r := by
  have l0 : e_op 60 [193, 1200] M = some (r_G M 1200) := r_rd (by decide) (by decide)
  have hfin : ∀ z : Int, ∃ r, (if e_W ((e_W z).tdiv 2) < 0 then (0 : Int) else if 100 < e_W ((e_W z).tdiv 2) then 100 else e_w (e_W ((e_W z).tdiv 2))) = r ∧ r_s01 r := by
    intro z
    generalize e_W ((e_W z).tdiv 2) = v
    rcases x_lt v 0 with ⟨c1, c1_n⟩ | ⟨c1, c1_n⟩
    · exact ⟨0, if_pos c1, by decide, by decide⟩
    · rcases x_lt 100 v with ⟨c2, c2_n⟩ | ⟨c2, c2_n⟩
      · exact ⟨100, by rw [if_neg c1, if_pos c2], by decide, by decide⟩
      · have w : e_w v = v := a_w_id (by omega) (by omega)
        exact ⟨v, by rw [if_neg c1, if_neg c2, w], by omega, by omega⟩
  rcases x_lt x3 (r_G M 1200) with ⟨q3, q3_n⟩ | ⟨q3, q3_n⟩
  · obtain ⟨g, kg, hg⟩ := r_isGap (k := x3) (M := M) ⟨h3.1, by omega⟩
    have hg0 : g = 0 := by
      rcases hg with hg | hg
      · exact hg
      · exfalso
        apply hq
        refine ⟨q3, ?_⟩
        rw [kg, hg]
        intro e
        cases e
    subst hg0
    have w3 : e_w (1202 + x3) = 1202 + x3 := a_w_id (by omega) (by omega)
    have l3 : e_op 60 [193, 1202 + x3] M = some (r_G M (1202 + x3)) := r_rd (by omega) (by omega)
    have n3 : ¬ (x3 = r_G M 1200) := by omega
    rcases x_lt x2 0 with ⟨q2, q2_n⟩ | ⟨q2, q2_n⟩
    · obtain ⟨r, hr, hs⟩ := hfin (r_G M (1202 + x3) + r_G M (1202 + x3))
      refine ⟨r, ?_, hs⟩
      rw [← hr]
      have q2' : ¬ (0 ≤ x2) := by omega
      rw [E_V_eq]
      show e_tv E_C (E_V 227) e_t227_36 [192, k, x2, x3, y4, 0, y6, 0, y8, 0] M = _
      unfold e_t227_36
      generalize hv : e_W ((e_W (r_G M (1202 + x3) + r_G M (1202 + x3))).tdiv 2) = v
      rcases x_lt v 0 with ⟨c1, c1_n⟩ | ⟨c1, c1_n⟩
      · simp [zq_a, zq_b, zq_c, zq_d, zq_e, zq_f, zq_g, zq_h, zq_i, zq_j, zq_k, zq_l, zq_m, zq_n, zq_o, zq_p, zq_q, zq_r, zq_s, zq_t, zq_u, zq_v, zq_w, zq_x, zq_y, zq_z, zq_A, zq_B, zq_C, zq_D, zq_E, zq_F, zq_G, zq_H, zq_I, zq_J, zq_K, zq_L, ↓zq_M, ↓zq_N, ↓zq_O, ↓zq_P, ↓zq_Q, ↓zq_R, zq_S, zq_T, zq_U, zq_V, zq_W, zq_X, zq_Y, zq_Z, zq_0, zq_1, zq_2, zq_3, zq_4, zq_5, ↓zq_6, ↓zq_7, ↓zq_8, ↓zq_9, ↓zq_aa, zq_ab, zq_ac, zq_ad, zq_ae, zq_af, zq_ag, ↓zq_ah, ↓zq_ai, ↓zq_aj, zq_ak, ↓zq_al, ↓zq_am, e_b1, e_b2, x_o1, x_o2, r_O0, q3, q3_n, kg, l0, l3, w3, n3, q2, q2_n, hv, c1, c1_n]
      · rcases x_lt 100 v with ⟨c2, c2_n⟩ | ⟨c2, c2_n⟩
        · simp [zq_a, zq_b, zq_c, zq_d, zq_e, zq_f, zq_g, zq_h, zq_i, zq_j, zq_k, zq_l, zq_m, zq_n, zq_o, zq_p, zq_q, zq_r, zq_s, zq_t, zq_u, zq_v, zq_w, zq_x, zq_y, zq_z, zq_A, zq_B, zq_C, zq_D, zq_E, zq_F, zq_G, zq_H, zq_I, zq_J, zq_K, zq_L, ↓zq_M, ↓zq_N, ↓zq_O, ↓zq_P, ↓zq_Q, ↓zq_R, zq_S, zq_T, zq_U, zq_V, zq_W, zq_X, zq_Y, zq_Z, zq_0, zq_1, zq_2, zq_3, zq_4, zq_5, ↓zq_6, ↓zq_7, ↓zq_8, ↓zq_9, ↓zq_aa, zq_ab, zq_ac, zq_ad, zq_ae, zq_af, zq_ag, ↓zq_ah, ↓zq_ai, ↓zq_aj, zq_ak, ↓zq_al, ↓zq_am, e_b1, e_b2, x_o1, x_o2, r_O0, q3, q3_n, kg, l0, l3, w3, n3, q2, q2_n, hv, c1, c1_n, c2, c2_n]
        · simp [zq_a, zq_b, zq_c, zq_d, zq_e, zq_f, zq_g, zq_h, zq_i, zq_j, zq_k, zq_l, zq_m, zq_n, zq_o, zq_p, zq_q, zq_r, zq_s, zq_t, zq_u, zq_v, zq_w, zq_x, zq_y, zq_z, zq_A, zq_B, zq_C, zq_D, zq_E, zq_F, zq_G, zq_H, zq_I, zq_J, zq_K, zq_L, ↓zq_M, ↓zq_N, ↓zq_O, ↓zq_P, ↓zq_Q, ↓zq_R, zq_S, zq_T, zq_U, zq_V, zq_W, zq_X, zq_Y, zq_Z, zq_0, zq_1, zq_2, zq_3, zq_4, zq_5, ↓zq_6, ↓zq_7, ↓zq_8, ↓zq_9, ↓zq_aa, zq_ab, zq_ac, zq_ad, zq_ae, zq_af, zq_ag, ↓zq_ah, ↓zq_ai, ↓zq_aj, zq_ak, ↓zq_al, ↓zq_am, e_b1, e_b2, x_o1, x_o2, r_O0, q3, q3_n, kg, l0, l3, w3, n3, q2, q2_n, hv, c1, c1_n, c2, c2_n]
    · have w2 : e_w (1202 + x2) = 1202 + x2 := a_w_id (by omega) (by omega)
      have l2 : e_op 60 [193, 1202 + x2] M = some (r_G M (1202 + x2)) := r_rd (by omega) (by omega)
      obtain ⟨r, hr, hs⟩ := hfin (r_G M (1202 + x2) + r_G M (1202 + x3))
      refine ⟨r, ?_, hs⟩
      rw [← hr]
      rw [E_V_eq]
      show e_tv E_C (E_V 227) e_t227_36 [192, k, x2, x3, y4, 0, y6, 0, y8, 0] M = _
      unfold e_t227_36
      generalize hv : e_W ((e_W (r_G M (1202 + x2) + r_G M (1202 + x3))).tdiv 2) = v
      rcases x_lt v 0 with ⟨c1, c1_n⟩ | ⟨c1, c1_n⟩
      · simp [zq_a, zq_b, zq_c, zq_d, zq_e, zq_f, zq_g, zq_h, zq_i, zq_j, zq_k, zq_l, zq_m, zq_n, zq_o, zq_p, zq_q, zq_r, zq_s, zq_t, zq_u, zq_v, zq_w, zq_x, zq_y, zq_z, zq_A, zq_B, zq_C, zq_D, zq_E, zq_F, zq_G, zq_H, zq_I, zq_J, zq_K, zq_L, ↓zq_M, ↓zq_N, ↓zq_O, ↓zq_P, ↓zq_Q, ↓zq_R, zq_S, zq_T, zq_U, zq_V, zq_W, zq_X, zq_Y, zq_Z, zq_0, zq_1, zq_2, zq_3, zq_4, zq_5, ↓zq_6, ↓zq_7, ↓zq_8, ↓zq_9, ↓zq_aa, zq_ab, zq_ac, zq_ad, zq_ae, zq_af, zq_ag, ↓zq_ah, ↓zq_ai, ↓zq_aj, zq_ak, ↓zq_al, ↓zq_am, e_b1, e_b2, x_o1, x_o2, r_O0, q3, q3_n, kg, l0, l2, l3, w2, w3, n3, q2, q2_n, hv, c1, c1_n]
      · rcases x_lt 100 v with ⟨c2, c2_n⟩ | ⟨c2, c2_n⟩
        · simp [zq_a, zq_b, zq_c, zq_d, zq_e, zq_f, zq_g, zq_h, zq_i, zq_j, zq_k, zq_l, zq_m, zq_n, zq_o, zq_p, zq_q, zq_r, zq_s, zq_t, zq_u, zq_v, zq_w, zq_x, zq_y, zq_z, zq_A, zq_B, zq_C, zq_D, zq_E, zq_F, zq_G, zq_H, zq_I, zq_J, zq_K, zq_L, ↓zq_M, ↓zq_N, ↓zq_O, ↓zq_P, ↓zq_Q, ↓zq_R, zq_S, zq_T, zq_U, zq_V, zq_W, zq_X, zq_Y, zq_Z, zq_0, zq_1, zq_2, zq_3, zq_4, zq_5, ↓zq_6, ↓zq_7, ↓zq_8, ↓zq_9, ↓zq_aa, zq_ab, zq_ac, zq_ad, zq_ae, zq_af, zq_ag, ↓zq_ah, ↓zq_ai, ↓zq_aj, zq_ak, ↓zq_al, ↓zq_am, e_b1, e_b2, x_o1, x_o2, r_O0, q3, q3_n, kg, l0, l2, l3, w2, w3, n3, q2, q2_n, hv, c1, c1_n, c2, c2_n]
        · simp [zq_a, zq_b, zq_c, zq_d, zq_e, zq_f, zq_g, zq_h, zq_i, zq_j, zq_k, zq_l, zq_m, zq_n, zq_o, zq_p, zq_q, zq_r, zq_s, zq_t, zq_u, zq_v, zq_w, zq_x, zq_y, zq_z, zq_A, zq_B, zq_C, zq_D, zq_E, zq_F, zq_G, zq_H, zq_I, zq_J, zq_K, zq_L, ↓zq_M, ↓zq_N, ↓zq_O, ↓zq_P, ↓zq_Q, ↓zq_R, zq_S, zq_T, zq_U, zq_V, zq_W, zq_X, zq_Y, zq_Z, zq_0, zq_1, zq_2, zq_3, zq_4, zq_5, ↓zq_6, ↓zq_7, ↓zq_8, ↓zq_9, ↓zq_aa, zq_ab, zq_ac, zq_ad, zq_ae, zq_af, zq_ag, ↓zq_ah, ↓zq_ai, ↓zq_aj, zq_ak, ↓zq_al, ↓zq_am, e_b1, e_b2, x_o1, x_o2, r_O0, q3, q3_n, kg, l0, l2, l3, w2, w3, n3, q2, q2_n, hv, c1, c1_n, c2, c2_n]
  · have n3 : x3 = r_G M 1200 := by omega
    rcases x_lt x2 0 with ⟨q2, q2_n⟩ | ⟨q2, q2_n⟩
    · refine ⟨0, ?_, by decide, by decide⟩
      rw [E_V_eq]
      show e_tv E_C (E_V 227) e_t227_36 [192, k, x2, x3, y4, 0, y6, 0, y8, 0] M = _
      unfold e_t227_36
      simp [zq_a, zq_b, zq_c, zq_d, zq_e, zq_f, zq_g, zq_h, zq_i, zq_j, zq_k, zq_l, zq_m, zq_n, zq_o, zq_p, zq_q, zq_r, zq_s, zq_t, zq_u, zq_v, zq_w, zq_x, zq_y, zq_z, zq_A, zq_B, zq_C, zq_D, zq_E, zq_F, zq_G, zq_H, zq_I, zq_J, zq_K, zq_L, ↓zq_M, ↓zq_N, ↓zq_O, ↓zq_P, ↓zq_Q, ↓zq_R, zq_S, zq_T, zq_U, zq_V, zq_W, zq_X, zq_Y, zq_Z, zq_0, zq_1, zq_2, zq_3, zq_4, zq_5, ↓zq_6, ↓zq_7, ↓zq_8, ↓zq_9, ↓zq_aa, zq_ab, zq_ac, zq_ad, zq_ae, zq_af, zq_ag, ↓zq_ah, ↓zq_ai, ↓zq_aj, zq_ak, ↓zq_al, ↓zq_am, e_b1, e_b2, x_o1, x_o2, r_O0, q3, q3_n, l0, n3, q2, q2_n]
    · have w2 : e_w (1202 + x2) = 1202 + x2 := a_w_id (by omega) (by omega)
      have l2 : e_op 60 [193, 1202 + x2] M = some (r_G M (1202 + x2)) := r_rd (by omega) (by omega)
      obtain ⟨r, hr, hs⟩ := hfin (r_G M (1202 + x2) + r_G M (1202 + x2))
      refine ⟨r, ?_, hs⟩
      rw [← hr]
      rw [E_V_eq]
      show e_tv E_C (E_V 227) e_t227_36 [192, k, x2, x3, y4, 0, y6, 0, y8, 0] M = _
      unfold e_t227_36
      generalize hv : e_W ((e_W (r_G M (1202 + x2) + r_G M (1202 + x2))).tdiv 2) = v
      rcases x_lt v 0 with ⟨c1, c1_n⟩ | ⟨c1, c1_n⟩
      · simp [zq_a, zq_b, zq_c, zq_d, zq_e, zq_f, zq_g, zq_h, zq_i, zq_j, zq_k, zq_l, zq_m, zq_n, zq_o, zq_p, zq_q, zq_r, zq_s, zq_t, zq_u, zq_v, zq_w, zq_x, zq_y, zq_z, zq_A, zq_B, zq_C, zq_D, zq_E, zq_F, zq_G, zq_H, zq_I, zq_J, zq_K, zq_L, ↓zq_M, ↓zq_N, ↓zq_O, ↓zq_P, ↓zq_Q, ↓zq_R, zq_S, zq_T, zq_U, zq_V, zq_W, zq_X, zq_Y, zq_Z, zq_0, zq_1, zq_2, zq_3, zq_4, zq_5, ↓zq_6, ↓zq_7, ↓zq_8, ↓zq_9, ↓zq_aa, zq_ab, zq_ac, zq_ad, zq_ae, zq_af, zq_ag, ↓zq_ah, ↓zq_ai, ↓zq_aj, zq_ak, ↓zq_al, ↓zq_am, e_b1, e_b2, x_o1, x_o2, r_O0, q3, q3_n, l0, l2, w2, n3, q2, q2_n, hv, c1, c1_n]
      · rcases x_lt 100 v with ⟨c2, c2_n⟩ | ⟨c2, c2_n⟩
        · simp [zq_a, zq_b, zq_c, zq_d, zq_e, zq_f, zq_g, zq_h, zq_i, zq_j, zq_k, zq_l, zq_m, zq_n, zq_o, zq_p, zq_q, zq_r, zq_s, zq_t, zq_u, zq_v, zq_w, zq_x, zq_y, zq_z, zq_A, zq_B, zq_C, zq_D, zq_E, zq_F, zq_G, zq_H, zq_I, zq_J, zq_K, zq_L, ↓zq_M, ↓zq_N, ↓zq_O, ↓zq_P, ↓zq_Q, ↓zq_R, zq_S, zq_T, zq_U, zq_V, zq_W, zq_X, zq_Y, zq_Z, zq_0, zq_1, zq_2, zq_3, zq_4, zq_5, ↓zq_6, ↓zq_7, ↓zq_8, ↓zq_9, ↓zq_aa, zq_ab, zq_ac, zq_ad, zq_ae, zq_af, zq_ag, ↓zq_ah, ↓zq_ai, ↓zq_aj, zq_ak, ↓zq_al, ↓zq_am, e_b1, e_b2, x_o1, x_o2, r_O0, q3, q3_n, l0, l2, w2, n3, q2, q2_n, hv, c1, c1_n, c2, c2_n]
        · simp [zq_a, zq_b, zq_c, zq_d, zq_e, zq_f, zq_g, zq_h, zq_i, zq_j, zq_k, zq_l, zq_m, zq_n, zq_o, zq_p, zq_q, zq_r, zq_s, zq_t, zq_u, zq_v, zq_w, zq_x, zq_y, zq_z, zq_A, zq_B, zq_C, zq_D, zq_E, zq_F, zq_G, zq_H, zq_I, zq_J, zq_K, zq_L, ↓zq_M, ↓zq_N, ↓zq_O, ↓zq_P, ↓zq_Q, ↓zq_R, zq_S, zq_T, zq_U, zq_V, zq_W, zq_X, zq_Y, zq_Z, zq_0, zq_1, zq_2, zq_3, zq_4, zq_5, ↓zq_6, ↓zq_7, ↓zq_8, ↓zq_9, ↓zq_aa, zq_ab, zq_ac, zq_ad, zq_ae, zq_af, zq_ag, ↓zq_ah, ↓zq_ai, ↓zq_aj, zq_ak, ↓zq_al, ↓zq_am, e_b1, e_b2, x_o1, x_o2, r_O0, q3, q3_n, l0, l2, w2, n3, q2, q2_n, hv, c1, c1_n, c2, c2_n]
theorem r_st_up {k x2 y4 y6 y8 : Int} {M : EM} (hz : 0 ≤ r_G M 1200 ∧ r_G M 1200 ≤ 120) (h2 : x2 < 120) : ∀ (m : Nat) (x3 : Int), (r_G M 1200 - x3).toNat ≤ m → 0 ≤ x3 → x3 ≤ r_G M 1200 → ∃ r, E_V 227 36 [192, k, x2, x3, y4, 0, y6, 0, y8, 0] M = some (r, M) ∧ r_s01 r := by
  intro m
  induction m with
  | zero => intro x3 hm h0 h1; exact r_st_end hz h2 ⟨h0, h1⟩ (fun h => by omega)
  | succ m ih =>
    intro x3 hm h0 h1
    by_cases q : x3 < r_G M 1200 ∧ E_C 226 [192, x3] M ≠ some (0, M)
    · obtain ⟨q, q1⟩ := q
      obtain ⟨g, kg, hg⟩ := r_isGap (k := x3) (M := M) ⟨h0, by omega⟩
      have hg1 : g = 1 := by
        rcases hg with hg | hg
        · exfalso; apply q1; rw [kg, hg]
        · exact hg
      subst hg1
      have l0 : e_op 60 [193, 1200] M = some (r_G M 1200) := r_rd (by decide) (by decide)
      have w4 : e_w (x3 + 1) = x3 + 1 := a_w_id (by omega) (by omega)
      obtain ⟨r, kr, hr⟩ := ih (x3 + 1) (by omega) (by omega) (by omega)
      refine ⟨r, ?_, hr⟩
      rw [E_V_eq]
      show e_tv E_C (E_V 227) e_t227_36 [192, k, x2, x3, y4, 0, y6, 0, y8, 0] M = _
      unfold e_t227_36
      simp [zq_a, zq_b, zq_c, zq_d, zq_e, zq_f, zq_g, zq_h, zq_i, zq_j, zq_k, zq_l, zq_m, zq_n, zq_o, zq_p, zq_q, zq_r, zq_s, zq_t, zq_u, zq_v, zq_w, zq_x, zq_y, zq_z, zq_A, zq_B, zq_C, zq_D, zq_E, zq_F, zq_G, zq_H, zq_I, zq_J, zq_K, zq_L, ↓zq_M, ↓zq_N, ↓zq_O, ↓zq_P, ↓zq_Q, ↓zq_R, zq_S, zq_T, zq_U, zq_V, zq_W, zq_X, zq_Y, zq_Z, zq_0, zq_1, zq_2, zq_3, zq_4, zq_5, ↓zq_6, ↓zq_7, ↓zq_8, ↓zq_9, ↓zq_aa, zq_ab, zq_ac, zq_ad, zq_ae, zq_af, zq_ag, ↓zq_ah, ↓zq_ai, ↓zq_aj, zq_ak, ↓zq_al, ↓zq_am, e_b1, e_b2, x_o1, x_o2, r_O0, q, kg, l0, w4, kr]
    · exact r_st_end hz h2 ⟨h0, h1⟩ q
theorem r_st_down {k y4 y6 y8 : Int} {M : EM} (hz : 0 ≤ r_G M 1200 ∧ r_G M 1200 ≤ 120) (hk : 0 ≤ k ∧ k ≤ r_G M 1200) : ∀ (m : Nat) (x2 : Int), (x2 + 1).toNat ≤ m → -1 ≤ x2 → x2 < 120 → ∃ r, E_V 227 18 [192, k, x2, k, y4, 0, y6, 0, y8, 0] M = some (r, M) ∧ r_s01 r := by
  have hend : ∀ x2, x2 < 120 → ¬ (0 ≤ x2 ∧ E_C 226 [192, x2] M ≠ some (0, M)) → ∃ r, E_V 227 18 [192, k, x2, k, y4, 0, y6, 0, y8, 0] M = some (r, M) ∧ r_s01 r := by
    intro x2 h1 q
    obtain ⟨r, kr, hr⟩ := r_st_up (k := k) (y4 := y4) (y6 := y6) (y8 := y8) hz h1 _ k (Nat.le_refl _) hk.1 hk.2
    refine ⟨r, ?_, hr⟩
    rcases x_le 0 x2 with ⟨q0, q0_n⟩ | ⟨q0, q0_n⟩
    · obtain ⟨g, kg, hg⟩ := r_isGap (k := x2) (M := M) ⟨q0, h1⟩
      have hg0 : g = 0 := by
        rcases hg with hg | hg
        · exact hg
        · exfalso
          apply q
          refine ⟨q0, ?_⟩
          rw [kg, hg]
          intro e
          cases e
      subst hg0
      rw [E_V_eq]
      show e_tv E_C (E_V 227) e_t227_18 [192, k, x2, k, y4, 0, y6, 0, y8, 0] M = _
      unfold e_t227_18
      simp [zq_a, zq_b, zq_c, zq_d, zq_e, zq_f, zq_g, zq_h, zq_i, zq_j, zq_k, zq_l, zq_m, zq_n, zq_o, zq_p, zq_q, zq_r, zq_s, zq_t, zq_u, zq_v, zq_w, zq_x, zq_y, zq_z, zq_A, zq_B, zq_C, zq_D, zq_E, zq_F, zq_G, zq_H, zq_I, zq_J, zq_K, zq_L, ↓zq_M, ↓zq_N, ↓zq_O, ↓zq_P, ↓zq_Q, ↓zq_R, zq_S, zq_T, zq_U, zq_V, zq_W, zq_X, zq_Y, zq_Z, zq_0, zq_1, zq_2, zq_3, zq_4, zq_5, ↓zq_6, ↓zq_7, ↓zq_8, ↓zq_9, ↓zq_aa, zq_ab, zq_ac, zq_ad, zq_ae, zq_af, zq_ag, ↓zq_ah, ↓zq_ai, ↓zq_aj, zq_ak, ↓zq_al, ↓zq_am, e_b1, e_b2, x_o1, x_o2, q0, q0_n, kg, kr]
    · rw [E_V_eq]
      show e_tv E_C (E_V 227) e_t227_18 [192, k, x2, k, y4, 0, y6, 0, y8, 0] M = _
      unfold e_t227_18
      simp [zq_a, zq_b, zq_c, zq_d, zq_e, zq_f, zq_g, zq_h, zq_i, zq_j, zq_k, zq_l, zq_m, zq_n, zq_o, zq_p, zq_q, zq_r, zq_s, zq_t, zq_u, zq_v, zq_w, zq_x, zq_y, zq_z, zq_A, zq_B, zq_C, zq_D, zq_E, zq_F, zq_G, zq_H, zq_I, zq_J, zq_K, zq_L, ↓zq_M, ↓zq_N, ↓zq_O, ↓zq_P, ↓zq_Q, ↓zq_R, zq_S, zq_T, zq_U, zq_V, zq_W, zq_X, zq_Y, zq_Z, zq_0, zq_1, zq_2, zq_3, zq_4, zq_5, ↓zq_6, ↓zq_7, ↓zq_8, ↓zq_9, ↓zq_aa, zq_ab, zq_ac, zq_ad, zq_ae, zq_af, zq_ag, ↓zq_ah, ↓zq_ai, ↓zq_aj, zq_ak, ↓zq_al, ↓zq_am, e_b1, e_b2, x_o1, x_o2, q0, q0_n, kr]
  intro m
  induction m with
  | zero => intro x2 hm h0 h1; exact hend x2 h1 (fun h => by omega)
  | succ m ih =>
    intro x2 hm h0 h1
    by_cases q : 0 ≤ x2 ∧ E_C 226 [192, x2] M ≠ some (0, M)
    · obtain ⟨q, q1⟩ := q
      obtain ⟨g, kg, hg⟩ := r_isGap (k := x2) (M := M) ⟨q, h1⟩
      have hg1 : g = 1 := by
        rcases hg with hg | hg
        · exfalso; apply q1; rw [kg, hg]
        · exact hg
      subst hg1
      have w4 : e_w (x2 + -1) = x2 - 1 := a_w_id (by omega) (by omega)
      obtain ⟨r, kr, hr⟩ := ih (x2 - 1) (by omega) (by omega) (by omega)
      refine ⟨r, ?_, hr⟩
      rw [E_V_eq]
      show e_tv E_C (E_V 227) e_t227_18 [192, k, x2, k, y4, 0, y6, 0, y8, 0] M = _
      unfold e_t227_18
      simp [zq_a, zq_b, zq_c, zq_d, zq_e, zq_f, zq_g, zq_h, zq_i, zq_j, zq_k, zq_l, zq_m, zq_n, zq_o, zq_p, zq_q, zq_r, zq_s, zq_t, zq_u, zq_v, zq_w, zq_x, zq_y, zq_z, zq_A, zq_B, zq_C, zq_D, zq_E, zq_F, zq_G, zq_H, zq_I, zq_J, zq_K, zq_L, ↓zq_M, ↓zq_N, ↓zq_O, ↓zq_P, ↓zq_Q, ↓zq_R, zq_S, zq_T, zq_U, zq_V, zq_W, zq_X, zq_Y, zq_Z, zq_0, zq_1, zq_2, zq_3, zq_4, zq_5, ↓zq_6, ↓zq_7, ↓zq_8, ↓zq_9, ↓zq_aa, zq_ab, zq_ac, zq_ad, zq_ae, zq_af, zq_ag, ↓zq_ah, ↓zq_ai, ↓zq_aj, zq_ak, ↓zq_al, ↓zq_am, e_b1, e_b2, x_o1, x_o2, q, kg, w4, kr]
    · exact hend x2 h1 q
theorem r_strengthAt {k : Int} {M : EM} (hz : 0 ≤ r_G M 1200 ∧ r_G M 1200 ≤ 120) (hk : 0 ≤ k) : ∃ r, E_C 227 [192, k] M = some (r, M) ∧ r_s01 r := by
  have l0 : e_op 60 [193, 1200] M = some (r_G M 1200) := r_rd (by decide) (by decide)
  rcases x_le (r_G M 1200) k with ⟨q, q_n⟩ | ⟨q, q_n⟩
  · refine ⟨0, ?_, by decide, by decide⟩
    rw [r_ent (show e_rok 227 [192, k] = true from decide_eq_true r_ref)]
    show e_tv E_C (E_V 227) e_t227_0 [192, k, 0, 0, 0, 0, 0, 0, 0, 0] M = _
    unfold e_t227_0
    simp [zq_a, zq_b, zq_c, zq_d, zq_e, zq_f, zq_g, zq_h, zq_i, zq_j, zq_k, zq_l, zq_m, zq_n, zq_o, zq_p, zq_q, zq_r, zq_s, zq_t, zq_u, zq_v, zq_w, zq_x, zq_y, zq_z, zq_A, zq_B, zq_C, zq_D, zq_E, zq_F, zq_G, zq_H, zq_I, zq_J, zq_K, zq_L, ↓zq_M, ↓zq_N, ↓zq_O, ↓zq_P, ↓zq_Q, ↓zq_R, zq_S, zq_T, zq_U, zq_V, zq_W, zq_X, zq_Y, zq_Z, zq_0, zq_1, zq_2, zq_3, zq_4, zq_5, ↓zq_6, ↓zq_7, ↓zq_8, ↓zq_9, ↓zq_aa, zq_ab, zq_ac, zq_ad, zq_ae, zq_af, zq_ag, ↓zq_ah, ↓zq_ai, ↓zq_aj, zq_ak, ↓zq_al, ↓zq_am, e_b1, e_b2, x_o1, x_o2, r_O0, l0, q, q_n]
  · obtain ⟨r, kr, hr⟩ := r_st_down (k := k) (y4 := 0) (y6 := 0) (y8 := 0) hz ⟨hk, by omega⟩ _ k (Nat.le_refl _) (by omega) (by omega)
    refine ⟨r, ?_, hr⟩
    rw [r_ent (show e_rok 227 [192, k] = true from decide_eq_true r_ref)]
    show e_tv E_C (E_V 227) e_t227_0 [192, k, 0, 0, 0, 0, 0, 0, 0, 0] M = _
    unfold e_t227_0
    simp [zq_a, zq_b, zq_c, zq_d, zq_e, zq_f, zq_g, zq_h, zq_i, zq_j, zq_k, zq_l, zq_m, zq_n, zq_o, zq_p, zq_q, zq_r, zq_s, zq_t, zq_u, zq_v, zq_w, zq_x, zq_y, zq_z, zq_A, zq_B, zq_C, zq_D, zq_E, zq_F, zq_G, zq_H, zq_I, zq_J, zq_K, zq_L, ↓zq_M, ↓zq_N, ↓zq_O, ↓zq_P, ↓zq_Q, ↓zq_R, zq_S, zq_T, zq_U, zq_V, zq_W, zq_X, zq_Y, zq_Z, zq_0, zq_1, zq_2, zq_3, zq_4, zq_5, ↓zq_6, ↓zq_7, ↓zq_8, ↓zq_9, ↓zq_aa, zq_ab, zq_ac, zq_ad, zq_ae, zq_af, zq_ag, ↓zq_ah, ↓zq_ai, ↓zq_aj, zq_ak, ↓zq_al, ↓zq_am, e_b1, e_b2, x_o1, x_o2, r_O0, l0, q, q_n, kr]
theorem r_strength {d h : Int} {M : EM} (hJ : r_J M) : r_Q 228 [192, d, h] M := by
  have hz := hJ.2.2.1.2.2.2.2.2.2
  by_cases q0 : 0 ≤ d ∧ d ≤ 9
  · have i0 := r_in1 (M := M) q0
    by_cases q1 : 0 ≤ h ∧ h ≤ 11
    · have i1 := r_in1 (M := M) q1
      have w1 : e_w (12 * d) = 12 * d := a_w_id (by omega) (by omega)
      have w2 : e_w (12 * d + h) = 12 * d + h := a_w_id (by omega) (by omega)
      obtain ⟨r, k, -⟩ := r_strengthAt (k := 12 * d + h) hz (by omega)
      refine r_same (r := r) hJ ?_
      rw [r_ent (show e_rok 228 [192, d, h] = true from decide_eq_true r_ref)]
      show e_tv E_C (E_V 228) e_t228_0 [192, d, h] M = _
      unfold e_t228_0
      simp [zq_a, zq_b, zq_c, zq_d, zq_e, zq_f, zq_g, zq_h, zq_i, zq_j, zq_k, zq_l, zq_m, zq_n, zq_o, zq_p, zq_q, zq_r, zq_s, zq_t, zq_u, zq_v, zq_w, zq_x, zq_y, zq_z, zq_A, zq_B, zq_C, zq_D, zq_E, zq_F, zq_G, zq_H, zq_I, zq_J, zq_K, zq_L, ↓zq_M, ↓zq_N, ↓zq_O, ↓zq_P, ↓zq_Q, ↓zq_R, zq_S, zq_T, zq_U, zq_V, zq_W, zq_X, zq_Y, zq_Z, zq_0, zq_1, zq_2, zq_3, zq_4, zq_5, ↓zq_6, ↓zq_7, ↓zq_8, ↓zq_9, ↓zq_aa, zq_ab, zq_ac, zq_ad, zq_ae, zq_af, zq_ag, ↓zq_ah, ↓zq_ai, ↓zq_aj, zq_ak, ↓zq_al, ↓zq_am, e_b1, e_b2, x_o1, x_o2, i0, i1, w1, w2, k]
    · have i1 := r_in0 (M := M) q1
      refine r_same (r := -1) hJ ?_
      rw [r_ent (show e_rok 228 [192, d, h] = true from decide_eq_true r_ref)]
      show e_tv E_C (E_V 228) e_t228_0 [192, d, h] M = _
      unfold e_t228_0
      simp [zq_a, zq_b, zq_c, zq_d, zq_e, zq_f, zq_g, zq_h, zq_i, zq_j, zq_k, zq_l, zq_m, zq_n, zq_o, zq_p, zq_q, zq_r, zq_s, zq_t, zq_u, zq_v, zq_w, zq_x, zq_y, zq_z, zq_A, zq_B, zq_C, zq_D, zq_E, zq_F, zq_G, zq_H, zq_I, zq_J, zq_K, zq_L, ↓zq_M, ↓zq_N, ↓zq_O, ↓zq_P, ↓zq_Q, ↓zq_R, zq_S, zq_T, zq_U, zq_V, zq_W, zq_X, zq_Y, zq_Z, zq_0, zq_1, zq_2, zq_3, zq_4, zq_5, ↓zq_6, ↓zq_7, ↓zq_8, ↓zq_9, ↓zq_aa, zq_ab, zq_ac, zq_ad, zq_ae, zq_af, zq_ag, ↓zq_ah, ↓zq_ai, ↓zq_aj, zq_ak, ↓zq_al, ↓zq_am, e_b1, e_b2, x_o1, x_o2, i0, i1]
  · have i0 := r_in0 (M := M) q0
    refine r_same (r := -1) hJ ?_
    rw [r_ent (show e_rok 228 [192, d, h] = true from decide_eq_true r_ref)]
    show e_tv E_C (E_V 228) e_t228_0 [192, d, h] M = _
    unfold e_t228_0
    simp [zq_a, zq_b, zq_c, zq_d, zq_e, zq_f, zq_g, zq_h, zq_i, zq_j, zq_k, zq_l, zq_m, zq_n, zq_o, zq_p, zq_q, zq_r, zq_s, zq_t, zq_u, zq_v, zq_w, zq_x, zq_y, zq_z, zq_A, zq_B, zq_C, zq_D, zq_E, zq_F, zq_G, zq_H, zq_I, zq_J, zq_K, zq_L, ↓zq_M, ↓zq_N, ↓zq_O, ↓zq_P, ↓zq_Q, ↓zq_R, zq_S, zq_T, zq_U, zq_V, zq_W, zq_X, zq_Y, zq_Z, zq_0, zq_1, zq_2, zq_3, zq_4, zq_5, ↓zq_6, ↓zq_7, ↓zq_8, ↓zq_9, ↓zq_aa, zq_ab, zq_ac, zq_ad, zq_ae, zq_af, zq_ag, ↓zq_ah, ↓zq_ai, ↓zq_aj, zq_ak, ↓zq_al, ↓zq_am, e_b1, e_b2, x_o1, x_o2, i0]
theorem r_hourPower {p d h : Int} {M : EM} (hJ : r_J M) (hp : 0 ≤ p ∧ p < r_G M 1198) (hd : 0 ≤ d ∧ d ≤ 9) (hh : 0 ≤ h ∧ h ≤ 11) : r_Q 229 [192, p, d, h] M := by
  have hE := r_J_E hJ
  have hW := hE.2.1
  have hz := hW.2.2.2.2.2.2
  have w1 : e_w (12 * d) = 12 * d := a_w_id (by omega) (by omega)
  have w2 : e_w (12 * d + h) = 12 * d + h := a_w_id (by omega) (by omega)
  obtain ⟨f1, f2, f3⟩ := r_fup (M := M) (k := 20) (v := h) (by decide) ⟨by omega, by omega⟩ hE.1
  obtain ⟨s, ks, hs⟩ := r_strengthAt (k := 12 * d + h) (M := e_up M 192 20 h) (by rw [f3]; exact hz) (by omega)
  have E1 : r_E (e_up M 192 20 h) := by
    refine ⟨f1, by rw [f3]; exact hW, ?_, ?_⟩ <;> rw [c_up_s] <;> omega
  have hs' := hs
  obtain ⟨s1, s2⟩ := hs'
  have E2 : r_E (e_up (e_up M 192 20 h) 192 21 s) := r_E_f E1 (by decide) (by decide) ⟨by omega, by omega⟩
  obtain ⟨g1, g2, g3⟩ := r_fup (M := e_up M 192 20 h) (k := 21) (v := s) (by decide) ⟨by omega, by omega⟩ f1
  obtain ⟨r, M3, k3, e3⟩ := r_bestPower E2 hW.2.1 (by rw [g3, f3]; exact r_pt_of hW hp)
  obtain ⟨h1, h2, -⟩ := r_fup (M := M3) (k := 20) (v := -1) (by decide) (by decide) e3.1
  refine ⟨r, e_up M3 192 20 (-1), ?_, h1, a_fr_tr f2 (a_fr_tr g2 (a_fr_tr (r_evq e3) h2)), c_up_s⟩
  rw [r_ent (show e_rok 229 [192, p, d, h] = true from decide_eq_true r_ref)]
  show e_tv E_C (E_V 229) e_t229_0 [192, p, d, h, 0] M = _
  unfold e_t229_0
  simp [zq_a, zq_b, zq_c, zq_d, zq_e, zq_f, zq_g, zq_h, zq_i, zq_j, zq_k, zq_l, zq_m, zq_n, zq_o, zq_p, zq_q, zq_r, zq_s, zq_t, zq_u, zq_v, zq_w, zq_x, zq_y, zq_z, zq_A, zq_B, zq_C, zq_D, zq_E, zq_F, zq_G, zq_H, zq_I, zq_J, zq_K, zq_L, ↓zq_M, ↓zq_N, ↓zq_O, ↓zq_P, ↓zq_Q, ↓zq_R, zq_S, zq_T, zq_U, zq_V, zq_W, zq_X, zq_Y, zq_Z, zq_0, zq_1, zq_2, zq_3, zq_4, zq_5, ↓zq_6, ↓zq_7, ↓zq_8, ↓zq_9, ↓zq_aa, zq_ab, zq_ac, zq_ad, zq_ae, zq_af, zq_ag, ↓zq_ah, ↓zq_ai, ↓zq_aj, zq_ak, ↓zq_al, ↓zq_am, e_b1, e_b2, x_o1, x_o2, r_P20, r_P21, w1, w2, ks, k3]
theorem r_hour {p d h : Int} {M : EM} (hJ : r_J M) : r_Q 230 [192, p, d, h] M := by
  have hE := r_J_E hJ
  have hW := hE.2.1
  by_cases q0 : 0 ≤ p ∧ p < r_G M 1198
  · have ip := r_ip1 hW q0
    by_cases q1 : 0 ≤ d ∧ d ≤ 9
    · have i1 := r_in1 (M := M) q1
      by_cases q2 : 0 ≤ h ∧ h ≤ 11
      · have i2 := r_in1 (M := M) q2
        obtain ⟨r, M1, k, t⟩ := r_hourPower hJ q0 q1 q2
        refine ⟨r, M1, ?_, t⟩
        rw [r_ent (show e_rok 230 [192, p, d, h] = true from decide_eq_true r_ref)]
        show e_tv E_C (E_V 230) e_t230_0 [192, p, d, h] M = _
        unfold e_t230_0
        simp [zq_a, zq_b, zq_c, zq_d, zq_e, zq_f, zq_g, zq_h, zq_i, zq_j, zq_k, zq_l, zq_m, zq_n, zq_o, zq_p, zq_q, zq_r, zq_s, zq_t, zq_u, zq_v, zq_w, zq_x, zq_y, zq_z, zq_A, zq_B, zq_C, zq_D, zq_E, zq_F, zq_G, zq_H, zq_I, zq_J, zq_K, zq_L, ↓zq_M, ↓zq_N, ↓zq_O, ↓zq_P, ↓zq_Q, ↓zq_R, zq_S, zq_T, zq_U, zq_V, zq_W, zq_X, zq_Y, zq_Z, zq_0, zq_1, zq_2, zq_3, zq_4, zq_5, ↓zq_6, ↓zq_7, ↓zq_8, ↓zq_9, ↓zq_aa, zq_ab, zq_ac, zq_ad, zq_ae, zq_af, zq_ag, ↓zq_ah, ↓zq_ai, ↓zq_aj, zq_ak, ↓zq_al, ↓zq_am, e_b1, e_b2, x_o1, x_o2, ip, i1, i2, k]
      · have i2 := r_in0 (M := M) q2
        refine r_same (r := -1) hJ ?_
        rw [r_ent (show e_rok 230 [192, p, d, h] = true from decide_eq_true r_ref)]
        show e_tv E_C (E_V 230) e_t230_0 [192, p, d, h] M = _
        unfold e_t230_0
        simp [zq_a, zq_b, zq_c, zq_d, zq_e, zq_f, zq_g, zq_h, zq_i, zq_j, zq_k, zq_l, zq_m, zq_n, zq_o, zq_p, zq_q, zq_r, zq_s, zq_t, zq_u, zq_v, zq_w, zq_x, zq_y, zq_z, zq_A, zq_B, zq_C, zq_D, zq_E, zq_F, zq_G, zq_H, zq_I, zq_J, zq_K, zq_L, ↓zq_M, ↓zq_N, ↓zq_O, ↓zq_P, ↓zq_Q, ↓zq_R, zq_S, zq_T, zq_U, zq_V, zq_W, zq_X, zq_Y, zq_Z, zq_0, zq_1, zq_2, zq_3, zq_4, zq_5, ↓zq_6, ↓zq_7, ↓zq_8, ↓zq_9, ↓zq_aa, zq_ab, zq_ac, zq_ad, zq_ae, zq_af, zq_ag, ↓zq_ah, ↓zq_ai, ↓zq_aj, zq_ak, ↓zq_al, ↓zq_am, e_b1, e_b2, x_o1, x_o2, ip, i1, i2]
    · have i1 := r_in0 (M := M) q1
      refine r_same (r := -1) hJ ?_
      rw [r_ent (show e_rok 230 [192, p, d, h] = true from decide_eq_true r_ref)]
      show e_tv E_C (E_V 230) e_t230_0 [192, p, d, h] M = _
      unfold e_t230_0
      simp [zq_a, zq_b, zq_c, zq_d, zq_e, zq_f, zq_g, zq_h, zq_i, zq_j, zq_k, zq_l, zq_m, zq_n, zq_o, zq_p, zq_q, zq_r, zq_s, zq_t, zq_u, zq_v, zq_w, zq_x, zq_y, zq_z, zq_A, zq_B, zq_C, zq_D, zq_E, zq_F, zq_G, zq_H, zq_I, zq_J, zq_K, zq_L, ↓zq_M, ↓zq_N, ↓zq_O, ↓zq_P, ↓zq_Q, ↓zq_R, zq_S, zq_T, zq_U, zq_V, zq_W, zq_X, zq_Y, zq_Z, zq_0, zq_1, zq_2, zq_3, zq_4, zq_5, ↓zq_6, ↓zq_7, ↓zq_8, ↓zq_9, ↓zq_aa, zq_ab, zq_ac, zq_ad, zq_ae, zq_af, zq_ag, ↓zq_ah, ↓zq_ai, ↓zq_aj, zq_ak, ↓zq_al, ↓zq_am, e_b1, e_b2, x_o1, x_o2, ip, i1]
  · have ip := r_ip0 hW q0
    refine r_same (r := -1) hJ ?_
    rw [r_ent (show e_rok 230 [192, p, d, h] = true from decide_eq_true r_ref)]
    show e_tv E_C (E_V 230) e_t230_0 [192, p, d, h] M = _
    unfold e_t230_0
    simp [zq_a, zq_b, zq_c, zq_d, zq_e, zq_f, zq_g, zq_h, zq_i, zq_j, zq_k, zq_l, zq_m, zq_n, zq_o, zq_p, zq_q, zq_r, zq_s, zq_t, zq_u, zq_v, zq_w, zq_x, zq_y, zq_z, zq_A, zq_B, zq_C, zq_D, zq_E, zq_F, zq_G, zq_H, zq_I, zq_J, zq_K, zq_L, ↓zq_M, ↓zq_N, ↓zq_O, ↓zq_P, ↓zq_Q, ↓zq_R, zq_S, zq_T, zq_U, zq_V, zq_W, zq_X, zq_Y, zq_Z, zq_0, zq_1, zq_2, zq_3, zq_4, zq_5, ↓zq_6, ↓zq_7, ↓zq_8, ↓zq_9, ↓zq_aa, zq_ab, zq_ac, zq_ad, zq_ae, zq_af, zq_ag, ↓zq_ah, ↓zq_ai, ↓zq_aj, zq_ak, ↓zq_al, ↓zq_am, e_b1, e_b2, x_o1, x_o2, ip]
theorem r_q_G {M M' : EM} (h : a_fr r_wq M M') : r_G M' = r_G M := funext fun i => r_wq_out h (by omega)
theorem r_day_loop {p d : Int} (hd : 0 ≤ d ∧ d ≤ 9) : ∀ (m : Nat) (x3 x4 : Int) (M : EM), r_J M → (0 ≤ p ∧ p < r_G M 1198) → (12 - x4).toNat ≤ m → 0 ≤ x4 → ∃ r M', E_V 231 27 [192, p, d, x3, x4] M = some (r, M') ∧ a_M M' ∧ a_fr r_wq M M' ∧ M' 192 20 = -1 := by
  have hend : ∀ x3 x4 M, r_J M → ¬ (x4 < 12) → ∃ r M', E_V 231 27 [192, p, d, x3, x4] M = some (r, M') ∧ a_M M' ∧ a_fr r_wq M M' ∧ M' 192 20 = -1 := by
    intro x3 x4 M hJ q
    refine ⟨x3, M, ?_, hJ.1, a_fr_rf, hJ.2.2.2.2⟩
    rw [E_V_eq]
    show e_tv E_C (E_V 231) e_t231_27 [192, p, d, x3, x4] M = _
    unfold e_t231_27
    simp [zq_a, zq_b, zq_c, zq_d, zq_e, zq_f, zq_g, zq_h, zq_i, zq_j, zq_k, zq_l, zq_m, zq_n, zq_o, zq_p, zq_q, zq_r, zq_s, zq_t, zq_u, zq_v, zq_w, zq_x, zq_y, zq_z, zq_A, zq_B, zq_C, zq_D, zq_E, zq_F, zq_G, zq_H, zq_I, zq_J, zq_K, zq_L, ↓zq_M, ↓zq_N, ↓zq_O, ↓zq_P, ↓zq_Q, ↓zq_R, zq_S, zq_T, zq_U, zq_V, zq_W, zq_X, zq_Y, zq_Z, zq_0, zq_1, zq_2, zq_3, zq_4, zq_5, ↓zq_6, ↓zq_7, ↓zq_8, ↓zq_9, ↓zq_aa, zq_ab, zq_ac, zq_ad, zq_ae, zq_af, zq_ag, ↓zq_ah, ↓zq_ai, ↓zq_aj, zq_ak, ↓zq_al, ↓zq_am, e_b1, e_b2, x_o1, x_o2, q]
  intro m
  induction m with
  | zero => intro x3 x4 M hJ hp hm h0; exact hend x3 x4 M hJ (by omega)
  | succ m ih =>
    intro x3 x4 M hJ hp hm h0
    rcases x_lt x4 12 with ⟨q, q_n⟩ | ⟨q, q_n⟩
    · have w4 : e_w (x4 + 1) = x4 + 1 := a_w_id (by omega) (by omega)
      obtain ⟨r, M1, k, t1, t2, t3⟩ := r_hourPower hJ hp hd (h := x4) ⟨h0, by omega⟩
      obtain ⟨r', M2, k2, u1, u2, u3⟩ := ih (e_w (x3 + r)) (x4 + 1) M1 (r_J_q hJ t1 t2 t3) (by rw [r_q_G t2]; exact hp) (by omega) (by omega)
      refine ⟨r', M2, ?_, u1, a_fr_tr t2 u2, u3⟩
      rw [E_V_eq]
      show e_tv E_C (E_V 231) e_t231_27 [192, p, d, x3, x4] M = _
      unfold e_t231_27
      simp [zq_a, zq_b, zq_c, zq_d, zq_e, zq_f, zq_g, zq_h, zq_i, zq_j, zq_k, zq_l, zq_m, zq_n, zq_o, zq_p, zq_q, zq_r, zq_s, zq_t, zq_u, zq_v, zq_w, zq_x, zq_y, zq_z, zq_A, zq_B, zq_C, zq_D, zq_E, zq_F, zq_G, zq_H, zq_I, zq_J, zq_K, zq_L, ↓zq_M, ↓zq_N, ↓zq_O, ↓zq_P, ↓zq_Q, ↓zq_R, zq_S, zq_T, zq_U, zq_V, zq_W, zq_X, zq_Y, zq_Z, zq_0, zq_1, zq_2, zq_3, zq_4, zq_5, ↓zq_6, ↓zq_7, ↓zq_8, ↓zq_9, ↓zq_aa, zq_ab, zq_ac, zq_ad, zq_ae, zq_af, zq_ag, ↓zq_ah, ↓zq_ai, ↓zq_aj, zq_ak, ↓zq_al, ↓zq_am, e_b1, e_b2, x_o1, x_o2, q, q_n, k, w4, k2]
    · exact hend x3 x4 M hJ q
theorem r_day {p d : Int} {M : EM} (hJ : r_J M) : r_Q 231 [192, p, d] M := by
  have hW := (r_J_E hJ).2.1
  by_cases q0 : 0 ≤ p ∧ p < r_G M 1198
  · have ip := r_ip1 hW q0
    by_cases q1 : 0 ≤ d ∧ d ≤ 9
    · have i1 := r_in1 (M := M) q1
      obtain ⟨r, M1, k, t⟩ := r_day_loop q1 12 0 0 M hJ q0 (by decide) (by decide)
      refine ⟨r, M1, ?_, t⟩
      rw [r_ent (show e_rok 231 [192, p, d] = true from decide_eq_true r_ref)]
      show e_tv E_C (E_V 231) e_t231_0 [192, p, d, 0, 0] M = _
      unfold e_t231_0
      simp [zq_a, zq_b, zq_c, zq_d, zq_e, zq_f, zq_g, zq_h, zq_i, zq_j, zq_k, zq_l, zq_m, zq_n, zq_o, zq_p, zq_q, zq_r, zq_s, zq_t, zq_u, zq_v, zq_w, zq_x, zq_y, zq_z, zq_A, zq_B, zq_C, zq_D, zq_E, zq_F, zq_G, zq_H, zq_I, zq_J, zq_K, zq_L, ↓zq_M, ↓zq_N, ↓zq_O, ↓zq_P, ↓zq_Q, ↓zq_R, zq_S, zq_T, zq_U, zq_V, zq_W, zq_X, zq_Y, zq_Z, zq_0, zq_1, zq_2, zq_3, zq_4, zq_5, ↓zq_6, ↓zq_7, ↓zq_8, ↓zq_9, ↓zq_aa, zq_ab, zq_ac, zq_ad, zq_ae, zq_af, zq_ag, ↓zq_ah, ↓zq_ai, ↓zq_aj, zq_ak, ↓zq_al, ↓zq_am, e_b1, e_b2, x_o1, x_o2, ip, i1, k]
    · have i1 := r_in0 (M := M) q1
      refine r_same (r := -1) hJ ?_
      rw [r_ent (show e_rok 231 [192, p, d] = true from decide_eq_true r_ref)]
      show e_tv E_C (E_V 231) e_t231_0 [192, p, d, 0, 0] M = _
      unfold e_t231_0
      simp [zq_a, zq_b, zq_c, zq_d, zq_e, zq_f, zq_g, zq_h, zq_i, zq_j, zq_k, zq_l, zq_m, zq_n, zq_o, zq_p, zq_q, zq_r, zq_s, zq_t, zq_u, zq_v, zq_w, zq_x, zq_y, zq_z, zq_A, zq_B, zq_C, zq_D, zq_E, zq_F, zq_G, zq_H, zq_I, zq_J, zq_K, zq_L, ↓zq_M, ↓zq_N, ↓zq_O, ↓zq_P, ↓zq_Q, ↓zq_R, zq_S, zq_T, zq_U, zq_V, zq_W, zq_X, zq_Y, zq_Z, zq_0, zq_1, zq_2, zq_3, zq_4, zq_5, ↓zq_6, ↓zq_7, ↓zq_8, ↓zq_9, ↓zq_aa, zq_ab, zq_ac, zq_ad, zq_ae, zq_af, zq_ag, ↓zq_ah, ↓zq_ai, ↓zq_aj, zq_ak, ↓zq_al, ↓zq_am, e_b1, e_b2, x_o1, x_o2, ip, i1]
  · have ip := r_ip0 hW q0
    refine r_same (r := -1) hJ ?_
    rw [r_ent (show e_rok 231 [192, p, d] = true from decide_eq_true r_ref)]
    show e_tv E_C (E_V 231) e_t231_0 [192, p, d, 0, 0] M = _
    unfold e_t231_0
    simp [zq_a, zq_b, zq_c, zq_d, zq_e, zq_f, zq_g, zq_h, zq_i, zq_j, zq_k, zq_l, zq_m, zq_n, zq_o, zq_p, zq_q, zq_r, zq_s, zq_t, zq_u, zq_v, zq_w, zq_x, zq_y, zq_z, zq_A, zq_B, zq_C, zq_D, zq_E, zq_F, zq_G, zq_H, zq_I, zq_J, zq_K, zq_L, ↓zq_M, ↓zq_N, ↓zq_O, ↓zq_P, ↓zq_Q, ↓zq_R, zq_S, zq_T, zq_U, zq_V, zq_W, zq_X, zq_Y, zq_Z, zq_0, zq_1, zq_2, zq_3, zq_4, zq_5, ↓zq_6, ↓zq_7, ↓zq_8, ↓zq_9, ↓zq_aa, zq_ab, zq_ac, zq_ad, zq_ae, zq_af, zq_ag, ↓zq_ah, ↓zq_ai, ↓zq_aj, zq_ak, ↓zq_al, ↓zq_am, e_b1, e_b2, x_o1, x_o2, ip]
theorem r_withoutOf {p c : Int} {M : EM} (hJ : r_J M) (hp : 0 ≤ p ∧ p < r_G M 1198) (hc : -2147483648 ≤ c ∧ c ≤ 2147483647) : r_Q 245 [192, p, c] M := by
  have hE := r_J_E hJ
  have hW := hE.2.1
  obtain ⟨f1, f2, f3⟩ := r_fup (M := M) (k := 22) (v := c) (by decide) hc hE.1
  have E1 : r_E (e_up M 192 22 c) := r_E_f hE (by decide) (by decide) hc
  obtain ⟨r, M3, k3, e3⟩ := r_bestPower E1 hW.2.1 (by rw [f3]; exact r_pt_of hW hp)
  obtain ⟨h1, h2, -⟩ := r_fup (M := M3) (k := 22) (v := 0) (by decide) (by decide) e3.1
  refine ⟨r, e_up M3 192 22 0, ?_, h1, a_fr_tr f2 (a_fr_tr (r_evq e3) h2), ?_⟩
  · rw [r_ent (show e_rok 245 [192, p, c] = true from decide_eq_true r_ref)]
    show e_tv E_C (E_V 245) e_t245_0 [192, p, c, 0] M = _
    unfold e_t245_0
    simp [zq_a, zq_b, zq_c, zq_d, zq_e, zq_f, zq_g, zq_h, zq_i, zq_j, zq_k, zq_l, zq_m, zq_n, zq_o, zq_p, zq_q, zq_r, zq_s, zq_t, zq_u, zq_v, zq_w, zq_x, zq_y, zq_z, zq_A, zq_B, zq_C, zq_D, zq_E, zq_F, zq_G, zq_H, zq_I, zq_J, zq_K, zq_L, ↓zq_M, ↓zq_N, ↓zq_O, ↓zq_P, ↓zq_Q, ↓zq_R, zq_S, zq_T, zq_U, zq_V, zq_W, zq_X, zq_Y, zq_Z, zq_0, zq_1, zq_2, zq_3, zq_4, zq_5, ↓zq_6, ↓zq_7, ↓zq_8, ↓zq_9, ↓zq_aa, zq_ab, zq_ac, zq_ad, zq_ae, zq_af, zq_ag, ↓zq_ah, ↓zq_ai, ↓zq_aj, zq_ak, ↓zq_al, ↓zq_am, e_b1, e_b2, x_o1, x_o2, r_P22, k3]
  · rw [r_up20 (by decide), r_ev_same e3 (by decide) (by decide), r_up20 (by decide)]
    exact hJ.2.2.2.2
theorem r_without {p c : Int} {M : EM} (hJ : r_J M) : r_Q 246 [192, p, c] M := by
  have hW := (r_J_E hJ).2.1
  by_cases q0 : 0 ≤ p ∧ p < r_G M 1198
  · have ip := r_ip1 hW q0
    by_cases q1 : 0 ≤ c ∧ c ≤ 15
    · have i1 := r_in1 (M := M) q1
      obtain ⟨r, M1, k, t⟩ := r_withoutOf (c := c) hJ q0 ⟨by omega, by omega⟩
      refine ⟨r, M1, ?_, t⟩
      rw [r_ent (show e_rok 246 [192, p, c] = true from decide_eq_true r_ref)]
      show e_tv E_C (E_V 246) e_t246_0 [192, p, c] M = _
      unfold e_t246_0
      simp [zq_a, zq_b, zq_c, zq_d, zq_e, zq_f, zq_g, zq_h, zq_i, zq_j, zq_k, zq_l, zq_m, zq_n, zq_o, zq_p, zq_q, zq_r, zq_s, zq_t, zq_u, zq_v, zq_w, zq_x, zq_y, zq_z, zq_A, zq_B, zq_C, zq_D, zq_E, zq_F, zq_G, zq_H, zq_I, zq_J, zq_K, zq_L, ↓zq_M, ↓zq_N, ↓zq_O, ↓zq_P, ↓zq_Q, ↓zq_R, zq_S, zq_T, zq_U, zq_V, zq_W, zq_X, zq_Y, zq_Z, zq_0, zq_1, zq_2, zq_3, zq_4, zq_5, ↓zq_6, ↓zq_7, ↓zq_8, ↓zq_9, ↓zq_aa, zq_ab, zq_ac, zq_ad, zq_ae, zq_af, zq_ag, ↓zq_ah, ↓zq_ai, ↓zq_aj, zq_ak, ↓zq_al, ↓zq_am, e_b1, e_b2, x_o1, x_o2, ip, i1, k]
    · have i1 := r_in0 (M := M) q1
      refine r_same (r := -1) hJ ?_
      rw [r_ent (show e_rok 246 [192, p, c] = true from decide_eq_true r_ref)]
      show e_tv E_C (E_V 246) e_t246_0 [192, p, c] M = _
      unfold e_t246_0
      simp [zq_a, zq_b, zq_c, zq_d, zq_e, zq_f, zq_g, zq_h, zq_i, zq_j, zq_k, zq_l, zq_m, zq_n, zq_o, zq_p, zq_q, zq_r, zq_s, zq_t, zq_u, zq_v, zq_w, zq_x, zq_y, zq_z, zq_A, zq_B, zq_C, zq_D, zq_E, zq_F, zq_G, zq_H, zq_I, zq_J, zq_K, zq_L, ↓zq_M, ↓zq_N, ↓zq_O, ↓zq_P, ↓zq_Q, ↓zq_R, zq_S, zq_T, zq_U, zq_V, zq_W, zq_X, zq_Y, zq_Z, zq_0, zq_1, zq_2, zq_3, zq_4, zq_5, ↓zq_6, ↓zq_7, ↓zq_8, ↓zq_9, ↓zq_aa, zq_ab, zq_ac, zq_ad, zq_ae, zq_af, zq_ag, ↓zq_ah, ↓zq_ai, ↓zq_aj, zq_ak, ↓zq_al, ↓zq_am, e_b1, e_b2, x_o1, x_o2, ip, i1]
  · have ip := r_ip0 hW q0
    refine r_same (r := -1) hJ ?_
    rw [r_ent (show e_rok 246 [192, p, c] = true from decide_eq_true r_ref)]
    show e_tv E_C (E_V 246) e_t246_0 [192, p, c] M = _
    unfold e_t246_0
    simp [zq_a, zq_b, zq_c, zq_d, zq_e, zq_f, zq_g, zq_h, zq_i, zq_j, zq_k, zq_l, zq_m, zq_n, zq_o, zq_p, zq_q, zq_r, zq_s, zq_t, zq_u, zq_v, zq_w, zq_x, zq_y, zq_z, zq_A, zq_B, zq_C, zq_D, zq_E, zq_F, zq_G, zq_H, zq_I, zq_J, zq_K, zq_L, ↓zq_M, ↓zq_N, ↓zq_O, ↓zq_P, ↓zq_Q, ↓zq_R, zq_S, zq_T, zq_U, zq_V, zq_W, zq_X, zq_Y, zq_Z, zq_0, zq_1, zq_2, zq_3, zq_4, zq_5, ↓zq_6, ↓zq_7, ↓zq_8, ↓zq_9, ↓zq_aa, zq_ab, zq_ac, zq_ad, zq_ae, zq_af, zq_ag, ↓zq_ah, ↓zq_ai, ↓zq_aj, zq_ak, ↓zq_al, ↓zq_am, e_b1, e_b2, x_o1, x_o2, ip]
theorem r_loss_loop {p c al x4 : Int} (h4 : -2147483648 ≤ x4 ∧ x4 ≤ 2147483647) : ∀ (m : Nat) (x5 y6 x7 x8 : Int) (M : EM), r_J M → (0 ≤ p ∧ p < r_G M 1198) → (16 - x7).toNat ≤ m → 0 ≤ x7 → ∃ r M', E_V 247 77 [192, p, c, al, x4, x5, y6, x7, x8] M = some (r, M') ∧ a_M M' ∧ a_fr r_wq M M' ∧ M' 192 20 = -1 := by
  have hend : ∀ x5 y6 x7 x8 M, r_J M → ¬ (x7 < 16) → ∃ r M', E_V 247 77 [192, p, c, al, x4, x5, y6, x7, x8] M = some (r, M') ∧ a_M M' ∧ a_fr r_wq M M' ∧ M' 192 20 = -1 := by
    intro x5 y6 x7 x8 M hJ q
    refine ⟨x5, M, ?_, hJ.1, a_fr_rf, hJ.2.2.2.2⟩
    rw [E_V_eq]
    show e_tv E_C (E_V 247) e_t247_77 [192, p, c, al, x4, x5, y6, x7, x8] M = _
    unfold e_t247_77
    simp [zq_a, zq_b, zq_c, zq_d, zq_e, zq_f, zq_g, zq_h, zq_i, zq_j, zq_k, zq_l, zq_m, zq_n, zq_o, zq_p, zq_q, zq_r, zq_s, zq_t, zq_u, zq_v, zq_w, zq_x, zq_y, zq_z, zq_A, zq_B, zq_C, zq_D, zq_E, zq_F, zq_G, zq_H, zq_I, zq_J, zq_K, zq_L, ↓zq_M, ↓zq_N, ↓zq_O, ↓zq_P, ↓zq_Q, ↓zq_R, zq_S, zq_T, zq_U, zq_V, zq_W, zq_X, zq_Y, zq_Z, zq_0, zq_1, zq_2, zq_3, zq_4, zq_5, ↓zq_6, ↓zq_7, ↓zq_8, ↓zq_9, ↓zq_aa, zq_ab, zq_ac, zq_ad, zq_ae, zq_af, zq_ag, ↓zq_ah, ↓zq_ai, ↓zq_aj, zq_ak, ↓zq_al, ↓zq_am, e_b1, e_b2, x_o1, x_o2, q]
  intro m
  induction m with
  | zero => intro x5 y6 x7 x8 M hJ hp hm h0; exact hend x5 y6 x7 x8 M hJ (by omega)
  | succ m ih =>
    intro x5 y6 x7 x8 M hJ hp hm h0
    rcases x_lt x7 16 with ⟨q, q_n⟩ | ⟨q, q_n⟩
    · have w4 : e_w (x7 + 1) = x7 + 1 := a_w_id (by omega) (by omega)
      have hgo : ∀ z5 z6 z8 M1, r_J M1 → (0 ≤ p ∧ p < r_G M1 1198) → ∃ r M', E_V 247 167 [192, p, c, al, x4, z5, z6, x7, z8] M1 = some (r, M') ∧ a_M M' ∧ a_fr r_wq M1 M' ∧ M' 192 20 = -1 := by
        intro z5 z6 z8 M1 hJ1 hp1
        obtain ⟨r, M', k, t⟩ := ih z5 z6 (x7 + 1) z8 M1 hJ1 hp1 (by omega) (by omega)
        refine ⟨r, M', ?_, t⟩
        rw [E_V_eq]
        show e_tv E_C (E_V 247) e_t247_167 [192, p, c, al, x4, z5, z6, x7, z8] M1 = _
        unfold e_t247_167
        simp [zq_a, zq_b, zq_c, zq_d, zq_e, zq_f, zq_g, zq_h, zq_i, zq_j, zq_k, zq_l, zq_m, zq_n, zq_o, zq_p, zq_q, zq_r, zq_s, zq_t, zq_u, zq_v, zq_w, zq_x, zq_y, zq_z, zq_A, zq_B, zq_C, zq_D, zq_E, zq_F, zq_G, zq_H, zq_I, zq_J, zq_K, zq_L, ↓zq_M, ↓zq_N, ↓zq_O, ↓zq_P, ↓zq_Q, ↓zq_R, zq_S, zq_T, zq_U, zq_V, zq_W, zq_X, zq_Y, zq_Z, zq_0, zq_1, zq_2, zq_3, zq_4, zq_5, ↓zq_6, ↓zq_7, ↓zq_8, ↓zq_9, ↓zq_aa, zq_ab, zq_ac, zq_ad, zq_ae, zq_af, zq_ag, ↓zq_ah, ↓zq_ai, ↓zq_aj, zq_ak, ↓zq_al, ↓zq_am, e_b1, e_b2, x_o1, x_o2, w4, k]
      by_cases c1 : e_bit (fun x y => x &&& y) x7 x4 = 0
      · obtain ⟨r1, M1, k1, t1, t2, t3⟩ := r_withoutOf (c := e_bit (fun x y => x ||| y) x7 x4) hJ hp (a_bit _ _ _)
        have J1 := r_J_q hJ t1 t2 t3
        have hp1 : 0 ≤ p ∧ p < r_G M1 1198 := by rw [r_q_G t2]; exact hp
        obtain ⟨r2, M2, k2, u1, u2, u3⟩ := r_withoutOf (c := x7) J1 hp1 ⟨by omega, by omega⟩
        have J2 := r_J_q J1 u1 u2 u3
        have hp2 : 0 ≤ p ∧ p < r_G M2 1198 := by rw [r_q_G u2]; exact hp1
        generalize hn : e_w (e_w (e_w (e_bit (fun x y => x &&& y) x7 1 + e_bit (fun x y => x &&& y) (e_bit (fun x y => x >>> (y &&& 31)) x7 1) 1) + e_bit (fun x y => x &&& y) (e_bit (fun x y => x >>> (y &&& 31)) x7 2) 1) + e_bit (fun x y => x &&& y) (e_bit (fun x y => x >>> (y &&& 31)) x7 3) 1) = n
        have key : ∃ z, ∀ t, e_tv E_C (E_V 247) e_t247_77 [192, p, c, al, x4, x5, y6, x7, x8] M = t ↔ E_V 247 167 [192, p, c, al, x4, z, y6, x7, n] M2 = t := by
          unfold e_t247_77
          by_cases n0 : n = 0
          · subst n0
            exact ⟨_, fun t => by simp [zq_a, zq_b, zq_c, zq_d, zq_e, zq_f, zq_g, zq_h, zq_i, zq_j, zq_k, zq_l, zq_m, zq_n, zq_o, zq_p, zq_q, zq_r, zq_s, zq_t, zq_u, zq_v, zq_w, zq_x, zq_y, zq_z, zq_A, zq_B, zq_C, zq_D, zq_E, zq_F, zq_G, zq_H, zq_I, zq_J, zq_K, zq_L, ↓zq_M, ↓zq_N, ↓zq_O, ↓zq_P, ↓zq_Q, ↓zq_R, zq_S, zq_T, zq_U, zq_V, zq_W, zq_X, zq_Y, zq_Z, zq_0, zq_1, zq_2, zq_3, zq_4, zq_5, ↓zq_6, ↓zq_7, ↓zq_8, ↓zq_9, ↓zq_aa, zq_ab, zq_ac, zq_ad, zq_ae, zq_af, zq_ag, ↓zq_ah, ↓zq_ai, ↓zq_aj, zq_ak, ↓zq_al, ↓zq_am, e_b1, e_b2, x_o1, x_o2, q, c1, k1, k2, hn]; exact Iff.rfl⟩
          · by_cases n3 : n = 3
            · subst n3
              exact ⟨_, fun t => by simp [zq_a, zq_b, zq_c, zq_d, zq_e, zq_f, zq_g, zq_h, zq_i, zq_j, zq_k, zq_l, zq_m, zq_n, zq_o, zq_p, zq_q, zq_r, zq_s, zq_t, zq_u, zq_v, zq_w, zq_x, zq_y, zq_z, zq_A, zq_B, zq_C, zq_D, zq_E, zq_F, zq_G, zq_H, zq_I, zq_J, zq_K, zq_L, ↓zq_M, ↓zq_N, ↓zq_O, ↓zq_P, ↓zq_Q, ↓zq_R, zq_S, zq_T, zq_U, zq_V, zq_W, zq_X, zq_Y, zq_Z, zq_0, zq_1, zq_2, zq_3, zq_4, zq_5, ↓zq_6, ↓zq_7, ↓zq_8, ↓zq_9, ↓zq_aa, zq_ab, zq_ac, zq_ad, zq_ae, zq_af, zq_ag, ↓zq_ah, ↓zq_ai, ↓zq_aj, zq_ak, ↓zq_al, ↓zq_am, e_b1, e_b2, x_o1, x_o2, q, c1, k1, k2, hn]; exact Iff.rfl⟩
            · exact ⟨_, fun t => by simp [zq_a, zq_b, zq_c, zq_d, zq_e, zq_f, zq_g, zq_h, zq_i, zq_j, zq_k, zq_l, zq_m, zq_n, zq_o, zq_p, zq_q, zq_r, zq_s, zq_t, zq_u, zq_v, zq_w, zq_x, zq_y, zq_z, zq_A, zq_B, zq_C, zq_D, zq_E, zq_F, zq_G, zq_H, zq_I, zq_J, zq_K, zq_L, ↓zq_M, ↓zq_N, ↓zq_O, ↓zq_P, ↓zq_Q, ↓zq_R, zq_S, zq_T, zq_U, zq_V, zq_W, zq_X, zq_Y, zq_Z, zq_0, zq_1, zq_2, zq_3, zq_4, zq_5, ↓zq_6, ↓zq_7, ↓zq_8, ↓zq_9, ↓zq_aa, zq_ab, zq_ac, zq_ad, zq_ae, zq_af, zq_ag, ↓zq_ah, ↓zq_ai, ↓zq_aj, zq_ak, ↓zq_al, ↓zq_am, e_b1, e_b2, x_o1, x_o2, q, c1, k1, k2, hn, n0, n3]; exact Iff.rfl⟩
        obtain ⟨z, key⟩ := key
        obtain ⟨r, M', k, s1, s2, s3⟩ := hgo z y6 n M2 J2 hp2
        exact ⟨r, M', (E_V_eq 247 77 _ M).trans ((key _).mpr k), s1, a_fr_tr t2 (a_fr_tr u2 s2), s3⟩
      · obtain ⟨r, M', k, t⟩ := hgo x5 y6 x8 M hJ hp
        refine ⟨r, M', ?_, t⟩
        rw [E_V_eq]
        show e_tv E_C (E_V 247) e_t247_77 [192, p, c, al, x4, x5, y6, x7, x8] M = _
        unfold e_t247_77
        simp [zq_a, zq_b, zq_c, zq_d, zq_e, zq_f, zq_g, zq_h, zq_i, zq_j, zq_k, zq_l, zq_m, zq_n, zq_o, zq_p, zq_q, zq_r, zq_s, zq_t, zq_u, zq_v, zq_w, zq_x, zq_y, zq_z, zq_A, zq_B, zq_C, zq_D, zq_E, zq_F, zq_G, zq_H, zq_I, zq_J, zq_K, zq_L, ↓zq_M, ↓zq_N, ↓zq_O, ↓zq_P, ↓zq_Q, ↓zq_R, zq_S, zq_T, zq_U, zq_V, zq_W, zq_X, zq_Y, zq_Z, zq_0, zq_1, zq_2, zq_3, zq_4, zq_5, ↓zq_6, ↓zq_7, ↓zq_8, ↓zq_9, ↓zq_aa, zq_ab, zq_ac, zq_ad, zq_ae, zq_af, zq_ag, ↓zq_ah, ↓zq_ai, ↓zq_aj, zq_ak, ↓zq_al, ↓zq_am, e_b1, e_b2, x_o1, x_o2, q, q_n, c1, k]
    · exact hend x5 y6 x7 x8 M hJ q
theorem r_loss {p c al : Int} {M : EM} (hJ : r_J M) : r_Q 247 [192, p, c, al] M := by
  have hW := (r_J_E hJ).2.1
  have f1 := r_fup (M := M) (k := 10) (v := 1) (by decide) (by decide) hJ.1
  have f0 := r_fup (M := M) (k := 10) (v := 0) (by decide) (by decide) hJ.1
  have t1 : (e_up M 192 10 1) 192 20 = -1 := (r_up20 (by decide)).trans hJ.2.2.2.2
  have t0 : (e_up M 192 10 0) 192 20 = -1 := (r_up20 (by decide)).trans hJ.2.2.2.2
  by_cases q0 : 0 ≤ p ∧ p < r_G M 1198
  · have ip := r_ip1 hW q0
    by_cases q1 : 0 ≤ c ∧ c ≤ 3
    · have i1 := r_in1 (M := M) q1
      have J0 := r_J_q hJ f0.1 f0.2.1 t0
      have hp0 : 0 ≤ p ∧ p < r_G (e_up M 192 10 0) 1198 := by rw [f0.2.2]; exact q0
      generalize hn : e_bit (fun x y => x <<< (y &&& 31)) 1 c = n
      have hnr : -2147483648 ≤ n ∧ n ≤ 2147483647 := by rw [← hn]; exact a_bit _ _ _
      by_cases q2 : al = 0
      · obtain ⟨r1, M1, k1, u1, u2, u3⟩ := r_withoutOf (c := e_w (e_w (2 * n) - 1)) J0 hp0 (a_w _)
        have J1 := r_J_q J0 u1 u2 u3
        have hp1 : 0 ≤ p ∧ p < r_G M1 1198 := by rw [r_q_G u2]; exact hp0
        obtain ⟨r2, M2, k2, v1, v2, v3⟩ := r_withoutOf (c := e_w (n - 1)) J1 hp1 (a_w _)
        refine ⟨e_w (r1 - r2), M2, ?_, v1, a_fr_tr f0.2.1 (a_fr_tr u2 v2), v3⟩
        subst q2
        rw [r_ent (show e_rok 247 [192, p, c, 0] = true from decide_eq_true r_ref)]
        show e_tv E_C (E_V 247) e_t247_0 [192, p, c, 0, 0, 0, 0, 0, 0] M = _
        unfold e_t247_0
        simp [zq_a, zq_b, zq_c, zq_d, zq_e, zq_f, zq_g, zq_h, zq_i, zq_j, zq_k, zq_l, zq_m, zq_n, zq_o, zq_p, zq_q, zq_r, zq_s, zq_t, zq_u, zq_v, zq_w, zq_x, zq_y, zq_z, zq_A, zq_B, zq_C, zq_D, zq_E, zq_F, zq_G, zq_H, zq_I, zq_J, zq_K, zq_L, ↓zq_M, ↓zq_N, ↓zq_O, ↓zq_P, ↓zq_Q, ↓zq_R, zq_S, zq_T, zq_U, zq_V, zq_W, zq_X, zq_Y, zq_Z, zq_0, zq_1, zq_2, zq_3, zq_4, zq_5, ↓zq_6, ↓zq_7, ↓zq_8, ↓zq_9, ↓zq_aa, zq_ab, zq_ac, zq_ad, zq_ae, zq_af, zq_ag, ↓zq_ah, ↓zq_ai, ↓zq_aj, zq_ak, ↓zq_al, ↓zq_am, e_b1, e_b2, x_o1, x_o2, r_P10, r_F10, c_up_s, ip, i1, hn, k1, k2]
      · obtain ⟨r, M1, k, u1, u2, u3⟩ := r_loss_loop (p := p) (c := c) (al := al) hnr 16 0 0 0 0 _ J0 hp0 (by decide) (by decide)
        refine ⟨r, M1, ?_, u1, a_fr_tr f0.2.1 u2, u3⟩
        rw [r_ent (show e_rok 247 [192, p, c, al] = true from decide_eq_true r_ref)]
        show e_tv E_C (E_V 247) e_t247_0 [192, p, c, al, 0, 0, 0, 0, 0] M = _
        unfold e_t247_0
        simp [zq_a, zq_b, zq_c, zq_d, zq_e, zq_f, zq_g, zq_h, zq_i, zq_j, zq_k, zq_l, zq_m, zq_n, zq_o, zq_p, zq_q, zq_r, zq_s, zq_t, zq_u, zq_v, zq_w, zq_x, zq_y, zq_z, zq_A, zq_B, zq_C, zq_D, zq_E, zq_F, zq_G, zq_H, zq_I, zq_J, zq_K, zq_L, ↓zq_M, ↓zq_N, ↓zq_O, ↓zq_P, ↓zq_Q, ↓zq_R, zq_S, zq_T, zq_U, zq_V, zq_W, zq_X, zq_Y, zq_Z, zq_0, zq_1, zq_2, zq_3, zq_4, zq_5, ↓zq_6, ↓zq_7, ↓zq_8, ↓zq_9, ↓zq_aa, zq_ab, zq_ac, zq_ad, zq_ae, zq_af, zq_ag, ↓zq_ah, ↓zq_ai, ↓zq_aj, zq_ak, ↓zq_al, ↓zq_am, e_b1, e_b2, x_o1, x_o2, r_P10, r_F10, c_up_s, ip, i1, hn, q2, k]
    · have i1 := r_in0 (M := M) q1
      refine ⟨0, _, ?_, f1.1, f1.2.1, t1⟩
      rw [r_ent (show e_rok 247 [192, p, c, al] = true from decide_eq_true r_ref)]
      show e_tv E_C (E_V 247) e_t247_0 [192, p, c, al, 0, 0, 0, 0, 0] M = _
      unfold e_t247_0
      simp [zq_a, zq_b, zq_c, zq_d, zq_e, zq_f, zq_g, zq_h, zq_i, zq_j, zq_k, zq_l, zq_m, zq_n, zq_o, zq_p, zq_q, zq_r, zq_s, zq_t, zq_u, zq_v, zq_w, zq_x, zq_y, zq_z, zq_A, zq_B, zq_C, zq_D, zq_E, zq_F, zq_G, zq_H, zq_I, zq_J, zq_K, zq_L, ↓zq_M, ↓zq_N, ↓zq_O, ↓zq_P, ↓zq_Q, ↓zq_R, zq_S, zq_T, zq_U, zq_V, zq_W, zq_X, zq_Y, zq_Z, zq_0, zq_1, zq_2, zq_3, zq_4, zq_5, ↓zq_6, ↓zq_7, ↓zq_8, ↓zq_9, ↓zq_aa, zq_ab, zq_ac, zq_ad, zq_ae, zq_af, zq_ag, ↓zq_ah, ↓zq_ai, ↓zq_aj, zq_ak, ↓zq_al, ↓zq_am, e_b1, e_b2, x_o1, x_o2, r_P10, r_F10, c_up_s, ip, i1]
  · have ip := r_ip0 hW q0
    refine ⟨0, _, ?_, f1.1, f1.2.1, t1⟩
    rw [r_ent (show e_rok 247 [192, p, c, al] = true from decide_eq_true r_ref)]
    show e_tv E_C (E_V 247) e_t247_0 [192, p, c, al, 0, 0, 0, 0, 0] M = _
    unfold e_t247_0
    simp [zq_a, zq_b, zq_c, zq_d, zq_e, zq_f, zq_g, zq_h, zq_i, zq_j, zq_k, zq_l, zq_m, zq_n, zq_o, zq_p, zq_q, zq_r, zq_s, zq_t, zq_u, zq_v, zq_w, zq_x, zq_y, zq_z, zq_A, zq_B, zq_C, zq_D, zq_E, zq_F, zq_G, zq_H, zq_I, zq_J, zq_K, zq_L, ↓zq_M, ↓zq_N, ↓zq_O, ↓zq_P, ↓zq_Q, ↓zq_R, zq_S, zq_T, zq_U, zq_V, zq_W, zq_X, zq_Y, zq_Z, zq_0, zq_1, zq_2, zq_3, zq_4, zq_5, ↓zq_6, ↓zq_7, ↓zq_8, ↓zq_9, ↓zq_aa, zq_ab, zq_ac, zq_ad, zq_ae, zq_af, zq_ag, ↓zq_ah, ↓zq_ai, ↓zq_aj, zq_ak, ↓zq_al, ↓zq_am, e_b1, e_b2, x_o1, x_o2, r_P10, r_F10, c_up_s, ip]
