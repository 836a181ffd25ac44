section
/-! SHELVES: copy -/
theorem h_143a {d i e j n x y : Int} {M : EM} (c0 : E_C 154 [8, d] M = some (x, M)) (c1 : E_C 154 [8, e] M = some (y, M)) (h : x = -1 ∨ y = -1) : E_C 143 [8, d, i, e, j, n] M = some (-1, M) := by
  have s0 : E_C 143 [8, d, i, e, j, n] M = e_tv E_C (E_V 143) e_t143_0 [8, d, i, e, j, n, 0, 0] M := r_ent (u := 143) (as := [8, d, i, e, j, n]) (M := M) (decide_eq_true c_this)
  rw [s0]
  unfold e_t143_0
  by_cases q : x = -1
  · simp [zq_a, zq_b, zq_c, zq_d, zq_e, zq_f, zq_g, zq_h, zq_i, zq_j, zq_k, zq_l, zq_m, zq_n, zq_o, zq_p, zq_q, zq_r, zq_s, zq_t, zq_u, zq_v, zq_w, zq_x, zq_y, zq_z, zq_A, zq_B, zq_C, zq_D, zq_E, zq_F, zq_G, zq_H, zq_I, zq_J, zq_K, zq_L, ↓zq_M, ↓zq_N, ↓zq_O, ↓zq_P, ↓zq_Q, ↓zq_R, zq_S, zq_T, zq_U, zq_V, zq_W, zq_X, zq_Y, zq_Z, zq_0, zq_1, zq_2, zq_3, zq_4, zq_5, ↓zq_6, ↓zq_7, ↓zq_8, ↓zq_9, ↓zq_aa, zq_ab, zq_ac, zq_ad, zq_ae, zq_af, zq_ag, ↓zq_ah, ↓zq_ai, ↓zq_aj, zq_ak, ↓zq_al, ↓zq_am, e_b1, e_b2, x_o1, x_o2, c0, c1, q]
  · have q2 := h.resolve_left q
    simp [zq_a, zq_b, zq_c, zq_d, zq_e, zq_f, zq_g, zq_h, zq_i, zq_j, zq_k, zq_l, zq_m, zq_n, zq_o, zq_p, zq_q, zq_r, zq_s, zq_t, zq_u, zq_v, zq_w, zq_x, zq_y, zq_z, zq_A, zq_B, zq_C, zq_D, zq_E, zq_F, zq_G, zq_H, zq_I, zq_J, zq_K, zq_L, ↓zq_M, ↓zq_N, ↓zq_O, ↓zq_P, ↓zq_Q, ↓zq_R, zq_S, zq_T, zq_U, zq_V, zq_W, zq_X, zq_Y, zq_Z, zq_0, zq_1, zq_2, zq_3, zq_4, zq_5, ↓zq_6, ↓zq_7, ↓zq_8, ↓zq_9, ↓zq_aa, zq_ab, zq_ac, zq_ad, zq_ae, zq_af, zq_ag, ↓zq_ah, ↓zq_ai, ↓zq_aj, zq_ak, ↓zq_al, ↓zq_am, e_b1, e_b2, x_o1, x_o2, c0, c1, q, q2]
theorem h_143b {d i e j n x y u v : Int} {M : EM} (c0 : E_C 154 [8, d] M = some (x, M)) (c1 : E_C 154 [8, e] M = some (y, M)) (hx : x ≠ -1) (hy : y ≠ -1) (t1 : E_C 84 [x] M = some (u, M)) (t2 : E_C 84 [y] M = some (v, M)) (h : u ≠ 0 ∨ v ≠ 0) : E_C 143 [8, d, i, e, j, n] M = some (-11, M) := by
  have s0 : E_C 143 [8, d, i, e, j, n] M = e_tv E_C (E_V 143) e_t143_0 [8, d, i, e, j, n, 0, 0] M := r_ent (u := 143) (as := [8, d, i, e, j, n]) (M := M) (decide_eq_true c_this)
  rw [s0]
  unfold e_t143_0
  by_cases q : u = 0
  · have q2 : v ≠ 0 := h.resolve_left (fun e => e q)
    simp [zq_a, zq_b, zq_c, zq_d, zq_e, zq_f, zq_g, zq_h, zq_i, zq_j, zq_k, zq_l, zq_m, zq_n, zq_o, zq_p, zq_q, zq_r, zq_s, zq_t, zq_u, zq_v, zq_w, zq_x, zq_y, zq_z, zq_A, zq_B, zq_C, zq_D, zq_E, zq_F, zq_G, zq_H, zq_I, zq_J, zq_K, zq_L, ↓zq_M, ↓zq_N, ↓zq_O, ↓zq_P, ↓zq_Q, ↓zq_R, zq_S, zq_T, zq_U, zq_V, zq_W, zq_X, zq_Y, zq_Z, zq_0, zq_1, zq_2, zq_3, zq_4, zq_5, ↓zq_6, ↓zq_7, ↓zq_8, ↓zq_9, ↓zq_aa, zq_ab, zq_ac, zq_ad, zq_ae, zq_af, zq_ag, ↓zq_ah, ↓zq_ai, ↓zq_aj, zq_ak, ↓zq_al, ↓zq_am, e_b1, e_b2, x_o1, x_o2, c0, c1, hx, hy, t1, t2, q, q2]
  · simp [zq_a, zq_b, zq_c, zq_d, zq_e, zq_f, zq_g, zq_h, zq_i, zq_j, zq_k, zq_l, zq_m, zq_n, zq_o, zq_p, zq_q, zq_r, zq_s, zq_t, zq_u, zq_v, zq_w, zq_x, zq_y, zq_z, zq_A, zq_B, zq_C, zq_D, zq_E, zq_F, zq_G, zq_H, zq_I, zq_J, zq_K, zq_L, ↓zq_M, ↓zq_N, ↓zq_O, ↓zq_P, ↓zq_Q, ↓zq_R, zq_S, zq_T, zq_U, zq_V, zq_W, zq_X, zq_Y, zq_Z, zq_0, zq_1, zq_2, zq_3, zq_4, zq_5, ↓zq_6, ↓zq_7, ↓zq_8, ↓zq_9, ↓zq_aa, zq_ab, zq_ac, zq_ad, zq_ae, zq_af, zq_ag, ↓zq_ah, ↓zq_ai, ↓zq_aj, zq_ak, ↓zq_al, ↓zq_am, e_b1, e_b2, x_o1, x_o2, c0, c1, hx, hy, t1, t2, q]
theorem h_143c {d i e j n x y p p' s s' : Int} {M : EM} (c0 : E_C 154 [8, d] M = some (x, M)) (c1 : E_C 154 [8, e] M = some (y, M)) (hx : x ≠ -1) (hy : y ≠ -1) (t1 : E_C 84 [x] M = some (0, M)) (t2 : E_C 84 [y] M = some (0, M)) (f1 : e_gf 513 [x] M = some p) (f2 : e_gf 513 [y] M = some p') (f3 : e_gf 516 [x] M = some s) (f4 : e_gf 516 [y] M = some s') (h : p = 0 ∨ p' = 0 ∨ s ≠ s') : E_C 143 [8, d, i, e, j, n] M = some (-12, M) := by
  have s0 : E_C 143 [8, d, i, e, j, n] M = e_tv E_C (E_V 143) e_t143_0 [8, d, i, e, j, n, 0, 0] M := r_ent (u := 143) (as := [8, d, i, e, j, n]) (M := M) (decide_eq_true c_this)
  rw [s0]
  unfold e_t143_0
  by_cases q : p = 0
  · simp [zq_a, zq_b, zq_c, zq_d, zq_e, zq_f, zq_g, zq_h, zq_i, zq_j, zq_k, zq_l, zq_m, zq_n, zq_o, zq_p, zq_q, zq_r, zq_s, zq_t, zq_u, zq_v, zq_w, zq_x, zq_y, zq_z, zq_A, zq_B, zq_C, zq_D, zq_E, zq_F, zq_G, zq_H, zq_I, zq_J, zq_K, zq_L, ↓zq_M, ↓zq_N, ↓zq_O, ↓zq_P, ↓zq_Q, ↓zq_R, zq_S, zq_T, zq_U, zq_V, zq_W, zq_X, zq_Y, zq_Z, zq_0, zq_1, zq_2, zq_3, zq_4, zq_5, ↓zq_6, ↓zq_7, ↓zq_8, ↓zq_9, ↓zq_aa, zq_ab, zq_ac, zq_ad, zq_ae, zq_af, zq_ag, ↓zq_ah, ↓zq_ai, ↓zq_aj, zq_ak, ↓zq_al, ↓zq_am, e_b1, e_b2, x_o1, x_o2, c0, c1, hx, hy, t1, t2, f1, f2, q]
  · by_cases q2 : p' = 0
    · simp [zq_a, zq_b, zq_c, zq_d, zq_e, zq_f, zq_g, zq_h, zq_i, zq_j, zq_k, zq_l, zq_m, zq_n, zq_o, zq_p, zq_q, zq_r, zq_s, zq_t, zq_u, zq_v, zq_w, zq_x, zq_y, zq_z, zq_A, zq_B, zq_C, zq_D, zq_E, zq_F, zq_G, zq_H, zq_I, zq_J, zq_K, zq_L, ↓zq_M, ↓zq_N, ↓zq_O, ↓zq_P, ↓zq_Q, ↓zq_R, zq_S, zq_T, zq_U, zq_V, zq_W, zq_X, zq_Y, zq_Z, zq_0, zq_1, zq_2, zq_3, zq_4, zq_5, ↓zq_6, ↓zq_7, ↓zq_8, ↓zq_9, ↓zq_aa, zq_ab, zq_ac, zq_ad, zq_ae, zq_af, zq_ag, ↓zq_ah, ↓zq_ai, ↓zq_aj, zq_ak, ↓zq_al, ↓zq_am, e_b1, e_b2, x_o1, x_o2, c0, c1, hx, hy, t1, t2, f1, f2, q, q2]
    · have q3 : s ≠ s' := (h.resolve_left q).resolve_left q2
      simp [zq_a, zq_b, zq_c, zq_d, zq_e, zq_f, zq_g, zq_h, zq_i, zq_j, zq_k, zq_l, zq_m, zq_n, zq_o, zq_p, zq_q, zq_r, zq_s, zq_t, zq_u, zq_v, zq_w, zq_x, zq_y, zq_z, zq_A, zq_B, zq_C, zq_D, zq_E, zq_F, zq_G, zq_H, zq_I, zq_J, zq_K, zq_L, ↓zq_M, ↓zq_N, ↓zq_O, ↓zq_P, ↓zq_Q, ↓zq_R, zq_S, zq_T, zq_U, zq_V, zq_W, zq_X, zq_Y, zq_Z, zq_0, zq_1, zq_2, zq_3, zq_4, zq_5, ↓zq_6, ↓zq_7, ↓zq_8, ↓zq_9, ↓zq_aa, zq_ab, zq_ac, zq_ad, zq_ae, zq_af, zq_ag, ↓zq_ah, ↓zq_ai, ↓zq_aj, zq_ak, ↓zq_al, ↓zq_am, e_b1, e_b2, x_o1, x_o2, c0, c1, hx, hy, t1, t2, f1, f2, f3, f4, q, q2, q3]
theorem h_143d {d i e j n x y p p' s g g' : Int} {M : EM} (c0 : E_C 154 [8, d] M = some (x, M)) (c1 : E_C 154 [8, e] M = some (y, M)) (hx : x ≠ -1) (hy : y ≠ -1) (t1 : E_C 84 [x] M = some (0, M)) (t2 : E_C 84 [y] M = some (0, M)) (f1 : e_gf 513 [x] M = some p) (f2 : e_gf 513 [y] M = some p') (f3 : e_gf 516 [x] M = some s) (f4 : e_gf 516 [y] M = some s) (hp : p ≠ 0) (hp' : p' ≠ 0) (g1 : E_C 90 [x, i, n] M = some (g, M)) (g2 : E_C 90 [y, j, n] M = some (g', M)) (h : g = 0 ∨ g' = 0) : E_C 143 [8, d, i, e, j, n] M = some (-13, M) := by
  have s0 : E_C 143 [8, d, i, e, j, n] M = e_tv E_C (E_V 143) e_t143_0 [8, d, i, e, j, n, 0, 0] M := r_ent (u := 143) (as := [8, d, i, e, j, n]) (M := M) (decide_eq_true c_this)
  rw [s0]
  unfold e_t143_0
  by_cases q : g = 0
  · simp [zq_a, zq_b, zq_c, zq_d, zq_e, zq_f, zq_g, zq_h, zq_i, zq_j, zq_k, zq_l, zq_m, zq_n, zq_o, zq_p, zq_q, zq_r, zq_s, zq_t, zq_u, zq_v, zq_w, zq_x, zq_y, zq_z, zq_A, zq_B, zq_C, zq_D, zq_E, zq_F, zq_G, zq_H, zq_I, zq_J, zq_K, zq_L, ↓zq_M, ↓zq_N, ↓zq_O, ↓zq_P, ↓zq_Q, ↓zq_R, zq_S, zq_T, zq_U, zq_V, zq_W, zq_X, zq_Y, zq_Z, zq_0, zq_1, zq_2, zq_3, zq_4, zq_5, ↓zq_6, ↓zq_7, ↓zq_8, ↓zq_9, ↓zq_aa, zq_ab, zq_ac, zq_ad, zq_ae, zq_af, zq_ag, ↓zq_ah, ↓zq_ai, ↓zq_aj, zq_ak, ↓zq_al, ↓zq_am, e_b1, e_b2, x_o1, x_o2, c0, c1, hx, hy, t1, t2, f1, f2, f3, f4, hp, hp', g1, g2, q]
  · have q2 := h.resolve_left q
    simp [zq_a, zq_b, zq_c, zq_d, zq_e, zq_f, zq_g, zq_h, zq_i, zq_j, zq_k, zq_l, zq_m, zq_n, zq_o, zq_p, zq_q, zq_r, zq_s, zq_t, zq_u, zq_v, zq_w, zq_x, zq_y, zq_z, zq_A, zq_B, zq_C, zq_D, zq_E, zq_F, zq_G, zq_H, zq_I, zq_J, zq_K, zq_L, ↓zq_M, ↓zq_N, ↓zq_O, ↓zq_P, ↓zq_Q, ↓zq_R, zq_S, zq_T, zq_U, zq_V, zq_W, zq_X, zq_Y, zq_Z, zq_0, zq_1, zq_2, zq_3, zq_4, zq_5, ↓zq_6, ↓zq_7, ↓zq_8, ↓zq_9, ↓zq_aa, zq_ab, zq_ac, zq_ad, zq_ae, zq_af, zq_ag, ↓zq_ah, ↓zq_ai, ↓zq_aj, zq_ak, ↓zq_al, ↓zq_am, e_b1, e_b2, x_o1, x_o2, c0, c1, hx, hy, t1, t2, f1, f2, f3, f4, hp, hp', g1, g2, q, q2]
theorem h_143e {d i e j n x y x' y' p p' s g g' : Int} {M M1 : EM} (c0 : E_C 154 [8, d] M = some (x, M)) (c1 : E_C 154 [8, e] M = some (y, M)) (hx : x ≠ -1) (hy : y ≠ -1) (t1 : E_C 84 [x] M = some (0, M)) (t2 : E_C 84 [y] M = some (0, M)) (f1 : e_gf 513 [x] M = some p) (f2 : e_gf 513 [y] M = some p') (f3 : e_gf 516 [x] M = some s) (f4 : e_gf 516 [y] M = some s) (hp : p ≠ 0) (hp' : p' ≠ 0) (g1 : E_C 90 [x, i, n] M = some (g, M)) (g2 : E_C 90 [y, j, n] M = some (g', M)) (hg : g ≠ 0) (hg' : g' ≠ 0) (f5 : e_gf 518 [x] M = some x') (f6 : e_gf 518 [y] M = some y') (k : e_cp [x', i, y', j, n] M = some M1) : E_C 143 [8, d, i, e, j, n] M = some (n, M1) := by
  have s0 : E_C 143 [8, d, i, e, j, n] M = e_tv E_C (E_V 143) e_t143_0 [8, d, i, e, j, n, 0, 0] M := r_ent (u := 143) (as := [8, d, i, e, j, n]) (M := M) (decide_eq_true c_this)
  rw [s0]
  unfold e_t143_0
  simp [zq_a, zq_b, zq_c, zq_d, zq_e, zq_f, zq_g, zq_h, zq_i, zq_j, zq_k, zq_l, zq_m, zq_n, zq_o, zq_p, zq_q, zq_r, zq_s, zq_t, zq_u, zq_v, zq_w, zq_x, zq_y, zq_z, zq_A, zq_B, zq_C, zq_D, zq_E, zq_F, zq_G, zq_H, zq_I, zq_J, zq_K, zq_L, ↓zq_M, ↓zq_N, ↓zq_O, ↓zq_P, ↓zq_Q, ↓zq_R, zq_S, zq_T, zq_U, zq_V, zq_W, zq_X, zq_Y, zq_Z, zq_0, zq_1, zq_2, zq_3, zq_4, zq_5, ↓zq_6, ↓zq_7, ↓zq_8, ↓zq_9, ↓zq_aa, zq_ab, zq_ac, zq_ad, zq_ae, zq_af, zq_ag, ↓zq_ah, ↓zq_ai, ↓zq_aj, zq_ak, ↓zq_al, ↓zq_am, e_b1, e_b2, x_o1, x_o2, c0, c1, hx, hy, t1, t2, f1, f2, f3, f4, hp, hp', g1, g2, hg, hg', f5, f6, k]
theorem h_262a {d i e j n a c : Int} {M : EM} (c0 : E_C 173 [d] M = some (a, M)) (c1 : E_C 173 [e] M = some (c, M)) (h : a = 0 ∨ c = 0) : E_C 262 [192, d, i, e, j, n] M = some (-1, M) := by
  rw [r_ent (show e_rok 262 [192, d, i, e, j, n] = true from decide_eq_true r_ref)]
  show e_tv E_C (E_V 262) e_t262_0 [192, d, i, e, j, n, 0, 0] M = _
  unfold e_t262_0
  by_cases q : a = 0
  · simp [zq_a, zq_b, zq_c, zq_d, zq_e, zq_f, zq_g, zq_h, zq_i, zq_j, zq_k, zq_l, zq_m, zq_n, zq_o, zq_p, zq_q, zq_r, zq_s, zq_t, zq_u, zq_v, zq_w, zq_x, zq_y, zq_z, zq_A, zq_B, zq_C, zq_D, zq_E, zq_F, zq_G, zq_H, zq_I, zq_J, zq_K, zq_L, ↓zq_M, ↓zq_N, ↓zq_O, ↓zq_P, ↓zq_Q, ↓zq_R, zq_S, zq_T, zq_U, zq_V, zq_W, zq_X, zq_Y, zq_Z, zq_0, zq_1, zq_2, zq_3, zq_4, zq_5, ↓zq_6, ↓zq_7, ↓zq_8, ↓zq_9, ↓zq_aa, zq_ab, zq_ac, zq_ad, zq_ae, zq_af, zq_ag, ↓zq_ah, ↓zq_ai, ↓zq_aj, zq_ak, ↓zq_al, ↓zq_am, e_b1, e_b2, x_o1, x_o2, c0, c1, q]
  · have q2 := h.resolve_left q
    simp [zq_a, zq_b, zq_c, zq_d, zq_e, zq_f, zq_g, zq_h, zq_i, zq_j, zq_k, zq_l, zq_m, zq_n, zq_o, zq_p, zq_q, zq_r, zq_s, zq_t, zq_u, zq_v, zq_w, zq_x, zq_y, zq_z, zq_A, zq_B, zq_C, zq_D, zq_E, zq_F, zq_G, zq_H, zq_I, zq_J, zq_K, zq_L, ↓zq_M, ↓zq_N, ↓zq_O, ↓zq_P, ↓zq_Q, ↓zq_R, zq_S, zq_T, zq_U, zq_V, zq_W, zq_X, zq_Y, zq_Z, zq_0, zq_1, zq_2, zq_3, zq_4, zq_5, ↓zq_6, ↓zq_7, ↓zq_8, ↓zq_9, ↓zq_aa, zq_ab, zq_ac, zq_ad, zq_ae, zq_af, zq_ag, ↓zq_ah, ↓zq_ai, ↓zq_aj, zq_ak, ↓zq_al, ↓zq_am, e_b1, e_b2, x_o1, x_o2, c0, c1, q, q2]
theorem h_262b {d i e j n a c : Int} {M : EM} (c0 : E_C 173 [d] M = some (1, M)) (c1 : E_C 173 [e] M = some (1, M)) (l1 : e_op 60 [195, d] M = some a) (l2 : e_op 60 [195, e] M = some c) (h : a = 0 ∨ c = 0) : E_C 262 [192, d, i, e, j, n] M = some (-11, M) := by
  rw [r_ent (show e_rok 262 [192, d, i, e, j, n] = true from decide_eq_true r_ref)]
  show e_tv E_C (E_V 262) e_t262_0 [192, d, i, e, j, n, 0, 0] M = _
  unfold e_t262_0
  by_cases q : a = 0
  · simp [zq_a, zq_b, zq_c, zq_d, zq_e, zq_f, zq_g, zq_h, zq_i, zq_j, zq_k, zq_l, zq_m, zq_n, zq_o, zq_p, zq_q, zq_r, zq_s, zq_t, zq_u, zq_v, zq_w, zq_x, zq_y, zq_z, zq_A, zq_B, zq_C, zq_D, zq_E, zq_F, zq_G, zq_H, zq_I, zq_J, zq_K, zq_L, ↓zq_M, ↓zq_N, ↓zq_O, ↓zq_P, ↓zq_Q, ↓zq_R, zq_S, zq_T, zq_U, zq_V, zq_W, zq_X, zq_Y, zq_Z, zq_0, zq_1, zq_2, zq_3, zq_4, zq_5, ↓zq_6, ↓zq_7, ↓zq_8, ↓zq_9, ↓zq_aa, zq_ab, zq_ac, zq_ad, zq_ae, zq_af, zq_ag, ↓zq_ah, ↓zq_ai, ↓zq_aj, zq_ak, ↓zq_al, ↓zq_am, e_b1, e_b2, x_o1, x_o2, r_O2, c0, c1, l1, l2, q]
  · have q2 := h.resolve_left q
    simp [zq_a, zq_b, zq_c, zq_d, zq_e, zq_f, zq_g, zq_h, zq_i, zq_j, zq_k, zq_l, zq_m, zq_n, zq_o, zq_p, zq_q, zq_r, zq_s, zq_t, zq_u, zq_v, zq_w, zq_x, zq_y, zq_z, zq_A, zq_B, zq_C, zq_D, zq_E, zq_F, zq_G, zq_H, zq_I, zq_J, zq_K, zq_L, ↓zq_M, ↓zq_N, ↓zq_O, ↓zq_P, ↓zq_Q, ↓zq_R, zq_S, zq_T, zq_U, zq_V, zq_W, zq_X, zq_Y, zq_Z, zq_0, zq_1, zq_2, zq_3, zq_4, zq_5, ↓zq_6, ↓zq_7, ↓zq_8, ↓zq_9, ↓zq_aa, zq_ab, zq_ac, zq_ad, zq_ae, zq_af, zq_ag, ↓zq_ah, ↓zq_ai, ↓zq_aj, zq_ak, ↓zq_al, ↓zq_am, e_b1, e_b2, x_o1, x_o2, r_O2, c0, c1, l1, l2, q, q2]
theorem h_262c {d i e j n a c s s' : Int} {M : EM} (c0 : E_C 173 [d] M = some (1, M)) (c1 : E_C 173 [e] M = some (1, M)) (l1 : e_op 60 [195, d] M = some a) (l2 : e_op 60 [195, e] M = some c) (ha : a ≠ 0) (hc : c ≠ 0) (l3 : e_op 60 [196, d] M = some s) (l4 : e_op 60 [196, e] M = some s') (h : a ≠ 2 ∨ c ≠ 2 ∨ s ≠ s') : E_C 262 [192, d, i, e, j, n] M = some (-12, M) := by
  rw [r_ent (show e_rok 262 [192, d, i, e, j, n] = true from decide_eq_true r_ref)]
  show e_tv E_C (E_V 262) e_t262_0 [192, d, i, e, j, n, 0, 0] M = _
  unfold e_t262_0
  by_cases q : a = 2
  · by_cases q2 : c = 2
    · have q3 : s ≠ s' := (h.resolve_left (fun h => h q)).resolve_left (fun h => h q2)
      simp [zq_a, zq_b, zq_c, zq_d, zq_e, zq_f, zq_g, zq_h, zq_i, zq_j, zq_k, zq_l, zq_m, zq_n, zq_o, zq_p, zq_q, zq_r, zq_s, zq_t, zq_u, zq_v, zq_w, zq_x, zq_y, zq_z, zq_A, zq_B, zq_C, zq_D, zq_E, zq_F, zq_G, zq_H, zq_I, zq_J, zq_K, zq_L, ↓zq_M, ↓zq_N, ↓zq_O, ↓zq_P, ↓zq_Q, ↓zq_R, zq_S, zq_T, zq_U, zq_V, zq_W, zq_X, zq_Y, zq_Z, zq_0, zq_1, zq_2, zq_3, zq_4, zq_5, ↓zq_6, ↓zq_7, ↓zq_8, ↓zq_9, ↓zq_aa, zq_ab, zq_ac, zq_ad, zq_ae, zq_af, zq_ag, ↓zq_ah, ↓zq_ai, ↓zq_aj, zq_ak, ↓zq_al, ↓zq_am, e_b1, e_b2, x_o1, x_o2, r_O2, r_O3, c0, c1, l1, l2, l3, l4, q, q2, q3]
    · simp [zq_a, zq_b, zq_c, zq_d, zq_e, zq_f, zq_g, zq_h, zq_i, zq_j, zq_k, zq_l, zq_m, zq_n, zq_o, zq_p, zq_q, zq_r, zq_s, zq_t, zq_u, zq_v, zq_w, zq_x, zq_y, zq_z, zq_A, zq_B, zq_C, zq_D, zq_E, zq_F, zq_G, zq_H, zq_I, zq_J, zq_K, zq_L, ↓zq_M, ↓zq_N, ↓zq_O, ↓zq_P, ↓zq_Q, ↓zq_R, zq_S, zq_T, zq_U, zq_V, zq_W, zq_X, zq_Y, zq_Z, zq_0, zq_1, zq_2, zq_3, zq_4, zq_5, ↓zq_6, ↓zq_7, ↓zq_8, ↓zq_9, ↓zq_aa, zq_ab, zq_ac, zq_ad, zq_ae, zq_af, zq_ag, ↓zq_ah, ↓zq_ai, ↓zq_aj, zq_ak, ↓zq_al, ↓zq_am, e_b1, e_b2, x_o1, x_o2, r_O2, r_O3, c0, c1, l1, l2, hc, q, q2]
  · simp [zq_a, zq_b, zq_c, zq_d, zq_e, zq_f, zq_g, zq_h, zq_i, zq_j, zq_k, zq_l, zq_m, zq_n, zq_o, zq_p, zq_q, zq_r, zq_s, zq_t, zq_u, zq_v, zq_w, zq_x, zq_y, zq_z, zq_A, zq_B, zq_C, zq_D, zq_E, zq_F, zq_G, zq_H, zq_I, zq_J, zq_K, zq_L, ↓zq_M, ↓zq_N, ↓zq_O, ↓zq_P, ↓zq_Q, ↓zq_R, zq_S, zq_T, zq_U, zq_V, zq_W, zq_X, zq_Y, zq_Z, zq_0, zq_1, zq_2, zq_3, zq_4, zq_5, ↓zq_6, ↓zq_7, ↓zq_8, ↓zq_9, ↓zq_aa, zq_ab, zq_ac, zq_ad, zq_ae, zq_af, zq_ag, ↓zq_ah, ↓zq_ai, ↓zq_aj, zq_ak, ↓zq_al, ↓zq_am, e_b1, e_b2, x_o1, x_o2, r_O2, r_O3, c0, c1, l1, l2, ha, hc, q]
theorem h_262d {d i e j n s z z' a c : Int} {M : EM} (c0 : E_C 173 [d] M = some (1, M)) (c1 : E_C 173 [e] M = some (1, M)) (l1 : e_op 60 [195, d] M = some 2) (l2 : e_op 60 [195, e] M = some 2) (l3 : e_op 60 [196, d] M = some s) (l4 : e_op 60 [196, e] M = some s) (l5 : e_op 60 [197, d] M = some z) (l6 : e_op 60 [197, e] M = some z') (w1 : 0 ≤ i → e_w (z - i) = a) (w2 : 0 ≤ j → e_w (z' - j) = c) (h : ¬ (0 ≤ n ∧ 0 ≤ i ∧ 0 ≤ j ∧ n ≤ a ∧ n ≤ c)) : E_C 262 [192, d, i, e, j, n] M = some (-13, M) := by
  rw [r_ent (show e_rok 262 [192, d, i, e, j, n] = true from decide_eq_true r_ref)]
  show e_tv E_C (E_V 262) e_t262_0 [192, d, i, e, j, n, 0, 0] M = _
  unfold e_t262_0
  rcases x_le 0 n with ⟨q1, q1_n⟩ | ⟨q1, q1_n⟩
  · rcases x_le 0 i with ⟨q2, q2_n⟩ | ⟨q2, q2_n⟩
    · have w1 := w1 q2
      rcases x_le 0 j with ⟨q3, q3_n⟩ | ⟨q3, q3_n⟩
      · have w2 := w2 q3
        rcases x_le n a with ⟨q4, q4_n⟩ | ⟨q4, q4_n⟩
        · have q5 : ¬ n ≤ c := fun e => h ⟨q1, q2, q3, q4, e⟩
          have q5_n : c < n := by
            clear w1 w2
            omega
          simp [zq_a, zq_b, zq_c, zq_d, zq_e, zq_f, zq_g, zq_h, zq_i, zq_j, zq_k, zq_l, zq_m, zq_n, zq_o, zq_p, zq_q, zq_r, zq_s, zq_t, zq_u, zq_v, zq_w, zq_x, zq_y, zq_z, zq_A, zq_B, zq_C, zq_D, zq_E, zq_F, zq_G, zq_H, zq_I, zq_J, zq_K, zq_L, ↓zq_M, ↓zq_N, ↓zq_O, ↓zq_P, ↓zq_Q, ↓zq_R, zq_S, zq_T, zq_U, zq_V, zq_W, zq_X, zq_Y, zq_Z, zq_0, zq_1, zq_2, zq_3, zq_4, zq_5, ↓zq_6, ↓zq_7, ↓zq_8, ↓zq_9, ↓zq_aa, zq_ab, zq_ac, zq_ad, zq_ae, zq_af, zq_ag, ↓zq_ah, ↓zq_ai, ↓zq_aj, zq_ak, ↓zq_al, ↓zq_am, e_b1, e_b2, x_o1, x_o2, r_O2, r_O3, r_O4, c0, c1, l1, l2, l3, l4, l5, l6, w1, w2, q1, q1_n, q2, q2_n, q3, q3_n, q4, q4_n, q5, q5_n]
        · simp [zq_a, zq_b, zq_c, zq_d, zq_e, zq_f, zq_g, zq_h, zq_i, zq_j, zq_k, zq_l, zq_m, zq_n, zq_o, zq_p, zq_q, zq_r, zq_s, zq_t, zq_u, zq_v, zq_w, zq_x, zq_y, zq_z, zq_A, zq_B, zq_C, zq_D, zq_E, zq_F, zq_G, zq_H, zq_I, zq_J, zq_K, zq_L, ↓zq_M, ↓zq_N, ↓zq_O, ↓zq_P, ↓zq_Q, ↓zq_R, zq_S, zq_T, zq_U, zq_V, zq_W, zq_X, zq_Y, zq_Z, zq_0, zq_1, zq_2, zq_3, zq_4, zq_5, ↓zq_6, ↓zq_7, ↓zq_8, ↓zq_9, ↓zq_aa, zq_ab, zq_ac, zq_ad, zq_ae, zq_af, zq_ag, ↓zq_ah, ↓zq_ai, ↓zq_aj, zq_ak, ↓zq_al, ↓zq_am, e_b1, e_b2, x_o1, x_o2, r_O2, r_O3, r_O4, c0, c1, l1, l2, l3, l4, l5, l6, w1, w2, q1, q1_n, q2, q2_n, q3, q3_n, q4, q4_n]
      · simp [zq_a, zq_b, zq_c, zq_d, zq_e, zq_f, zq_g, zq_h, zq_i, zq_j, zq_k, zq_l, zq_m, zq_n, zq_o, zq_p, zq_q, zq_r, zq_s, zq_t, zq_u, zq_v, zq_w, zq_x, zq_y, zq_z, zq_A, zq_B, zq_C, zq_D, zq_E, zq_F, zq_G, zq_H, zq_I, zq_J, zq_K, zq_L, ↓zq_M, ↓zq_N, ↓zq_O, ↓zq_P, ↓zq_Q, ↓zq_R, zq_S, zq_T, zq_U, zq_V, zq_W, zq_X, zq_Y, zq_Z, zq_0, zq_1, zq_2, zq_3, zq_4, zq_5, ↓zq_6, ↓zq_7, ↓zq_8, ↓zq_9, ↓zq_aa, zq_ab, zq_ac, zq_ad, zq_ae, zq_af, zq_ag, ↓zq_ah, ↓zq_ai, ↓zq_aj, zq_ak, ↓zq_al, ↓zq_am, e_b1, e_b2, x_o1, x_o2, r_O2, r_O3, r_O4, c0, c1, l1, l2, l3, l4, l5, l6, q1, q1_n, q2, q2_n, q3, q3_n]
    · simp [zq_a, zq_b, zq_c, zq_d, zq_e, zq_f, zq_g, zq_h, zq_i, zq_j, zq_k, zq_l, zq_m, zq_n, zq_o, zq_p, zq_q, zq_r, zq_s, zq_t, zq_u, zq_v, zq_w, zq_x, zq_y, zq_z, zq_A, zq_B, zq_C, zq_D, zq_E, zq_F, zq_G, zq_H, zq_I, zq_J, zq_K, zq_L, ↓zq_M, ↓zq_N, ↓zq_O, ↓zq_P, ↓zq_Q, ↓zq_R, zq_S, zq_T, zq_U, zq_V, zq_W, zq_X, zq_Y, zq_Z, zq_0, zq_1, zq_2, zq_3, zq_4, zq_5, ↓zq_6, ↓zq_7, ↓zq_8, ↓zq_9, ↓zq_aa, zq_ab, zq_ac, zq_ad, zq_ae, zq_af, zq_ag, ↓zq_ah, ↓zq_ai, ↓zq_aj, zq_ak, ↓zq_al, ↓zq_am, e_b1, e_b2, x_o1, x_o2, r_O2, r_O3, r_O4, c0, c1, l1, l2, l3, l4, l5, l6, q1, q1_n, q2, q2_n]
  · simp [zq_a, zq_b, zq_c, zq_d, zq_e, zq_f, zq_g, zq_h, zq_i, zq_j, zq_k, zq_l, zq_m, zq_n, zq_o, zq_p, zq_q, zq_r, zq_s, zq_t, zq_u, zq_v, zq_w, zq_x, zq_y, zq_z, zq_A, zq_B, zq_C, zq_D, zq_E, zq_F, zq_G, zq_H, zq_I, zq_J, zq_K, zq_L, ↓zq_M, ↓zq_N, ↓zq_O, ↓zq_P, ↓zq_Q, ↓zq_R, zq_S, zq_T, zq_U, zq_V, zq_W, zq_X, zq_Y, zq_Z, zq_0, zq_1, zq_2, zq_3, zq_4, zq_5, ↓zq_6, ↓zq_7, ↓zq_8, ↓zq_9, ↓zq_aa, zq_ab, zq_ac, zq_ad, zq_ae, zq_af, zq_ag, ↓zq_ah, ↓zq_ai, ↓zq_aj, zq_ak, ↓zq_al, ↓zq_am, e_b1, e_b2, x_o1, x_o2, r_O2, r_O3, r_O4, c0, c1, l1, l2, l3, l4, l5, l6, q1, q1_n]
theorem h_262e {d i e j n s z z' a c : Int} {M : EM} {o : EO} (c0 : E_C 173 [d] M = some (1, M)) (c1 : E_C 173 [e] M = some (1, M)) (l1 : e_op 60 [195, d] M = some 2) (l2 : e_op 60 [195, e] M = some 2) (l3 : e_op 60 [196, d] M = some s) (l4 : e_op 60 [196, e] M = some s) (l5 : e_op 60 [197, d] M = some z) (l6 : e_op 60 [197, e] M = some z') (w1 : e_w (z - i) = a) (w2 : e_w (z' - j) = c) (q1 : 0 ≤ n) (q2 : 0 ≤ i) (q3 : 0 ≤ j) (q4 : n ≤ a) (q5 : n ≤ c) (k : E_V 262 122 [192, d, i, e, j, n, 0, 0] M = o) : E_C 262 [192, d, i, e, j, n] M = o := by
  have q1_n : ¬ n < 0 := by clear w1 w2; omega
  have q2_n : ¬ i < 0 := by clear w1 w2; omega
  have q3_n : ¬ j < 0 := by clear w1 w2; omega
  have q4_n : ¬ a < n := by clear w1 w2; omega
  have q5_n : ¬ c < n := by clear w1 w2; omega
  rw [r_ent (show e_rok 262 [192, d, i, e, j, n] = true from decide_eq_true r_ref)]
  show e_tv E_C (E_V 262) e_t262_0 [192, d, i, e, j, n, 0, 0] M = _
  unfold e_t262_0
  simp [zq_a, zq_b, zq_c, zq_d, zq_e, zq_f, zq_g, zq_h, zq_i, zq_j, zq_k, zq_l, zq_m, zq_n, zq_o, zq_p, zq_q, zq_r, zq_s, zq_t, zq_u, zq_v, zq_w, zq_x, zq_y, zq_z, zq_A, zq_B, zq_C, zq_D, zq_E, zq_F, zq_G, zq_H, zq_I, zq_J, zq_K, zq_L, ↓zq_M, ↓zq_N, ↓zq_O, ↓zq_P, ↓zq_Q, ↓zq_R, zq_S, zq_T, zq_U, zq_V, zq_W, zq_X, zq_Y, zq_Z, zq_0, zq_1, zq_2, zq_3, zq_4, zq_5, ↓zq_6, ↓zq_7, ↓zq_8, ↓zq_9, ↓zq_aa, zq_ab, zq_ac, zq_ad, zq_ae, zq_af, zq_ag, ↓zq_ah, ↓zq_ai, ↓zq_aj, zq_ak, ↓zq_al, ↓zq_am, e_b1, e_b2, x_o1, x_o2, r_O2, r_O3, r_O4, c0, c1, l1, l2, l3, l4, l5, l6, w1, w2, q1, q1_n, q2, q2_n, q3, q3_n, q4, q4_n, q5, q5_n, k]
theorem h_262s {d i e j n q y t ia ib v b1 b2 b3 b4 q' n1 : Int} {na : Nat} {M : EM} (h : q < n) (wn : e_w (n - 1) = n1) (ht : t = if j < i then q else e_w (n1 - q)) (w1 : e_w (120 * e) = b1) (w2 : e_w (b1 + j) = b2) (w3 : e_w (b2 + t) = ib) (w4 : e_w (120 * d) = b3) (w5 : e_w (b3 + i) = b4) (w6 : e_w (b4 + t) = ia) (w7 : e_w (q + 1) = q') (l : e_op 60 [198, ia] M = some v) (st : e_st 100 [198, ib, v] M = some (e_up M 198 na v)) : E_V 262 122 [192, d, i, e, j, n, q, y] M = E_V 262 122 [192, d, i, e, j, n, q', t] (e_up M 198 na v) := by
  rw [E_V_eq]
  show e_tv E_C (E_V 262) e_t262_122 [192, d, i, e, j, n, q, y] M = _
  unfold e_t262_122
  rcases x_lt j i with ⟨c, c_n⟩ | ⟨c, c_n⟩
  · rw [if_pos c] at ht
    subst ht
    simp [zq_a, zq_b, zq_c, zq_d, zq_e, zq_f, zq_g, zq_h, zq_i, zq_j, zq_k, zq_l, zq_m, zq_n, zq_o, zq_p, zq_q, zq_r, zq_s, zq_t, zq_u, zq_v, zq_w, zq_x, zq_y, zq_z, zq_A, zq_B, zq_C, zq_D, zq_E, zq_F, zq_G, zq_H, zq_I, zq_J, zq_K, zq_L, ↓zq_M, ↓zq_N, ↓zq_O, ↓zq_P, ↓zq_Q, ↓zq_R, zq_S, zq_T, zq_U, zq_V, zq_W, zq_X, zq_Y, zq_Z, zq_0, zq_1, zq_2, zq_3, zq_4, zq_5, ↓zq_6, ↓zq_7, ↓zq_8, ↓zq_9, ↓zq_aa, zq_ab, zq_ac, zq_ad, zq_ae, zq_af, zq_ag, ↓zq_ah, ↓zq_ai, ↓zq_aj, zq_ak, ↓zq_al, ↓zq_am, e_b1, e_b2, x_o1, x_o2, r_O5, h, c, c_n, w1, w2, w3, w4, w5, w6, w7, l, st]
  · rw [if_neg c] at ht
    subst ht
    simp [zq_a, zq_b, zq_c, zq_d, zq_e, zq_f, zq_g, zq_h, zq_i, zq_j, zq_k, zq_l, zq_m, zq_n, zq_o, zq_p, zq_q, zq_r, zq_s, zq_t, zq_u, zq_v, zq_w, zq_x, zq_y, zq_z, zq_A, zq_B, zq_C, zq_D, zq_E, zq_F, zq_G, zq_H, zq_I, zq_J, zq_K, zq_L, ↓zq_M, ↓zq_N, ↓zq_O, ↓zq_P, ↓zq_Q, ↓zq_R, zq_S, zq_T, zq_U, zq_V, zq_W, zq_X, zq_Y, zq_Z, zq_0, zq_1, zq_2, zq_3, zq_4, zq_5, ↓zq_6, ↓zq_7, ↓zq_8, ↓zq_9, ↓zq_aa, zq_ab, zq_ac, zq_ad, zq_ae, zq_af, zq_ag, ↓zq_ah, ↓zq_ai, ↓zq_aj, zq_ak, ↓zq_al, ↓zq_am, e_b1, e_b2, x_o1, x_o2, r_O5, h, wn, c, c_n, w1, w2, w3, w4, w5, w6, w7, l, st]
theorem h_262z {d i e j n y : Int} {M : EM} : E_V 262 122 [192, d, i, e, j, n, n, y] M = some (n, M) := by
  rw [E_V_eq]
  show e_tv E_C (E_V 262) e_t262_122 [192, d, i, e, j, n, n, y] M = _
  unfold e_t262_122
  simp [zq_a, zq_b, zq_c, zq_d, zq_e, zq_f, zq_g, zq_h, zq_i, zq_j, zq_k, zq_l, zq_m, zq_n, zq_o, zq_p, zq_q, zq_r, zq_s, zq_t, zq_u, zq_v, zq_w, zq_x, zq_y, zq_z, zq_A, zq_B, zq_C, zq_D, zq_E, zq_F, zq_G, zq_H, zq_I, zq_J, zq_K, zq_L, ↓zq_M, ↓zq_N, ↓zq_O, ↓zq_P, ↓zq_Q, ↓zq_R, zq_S, zq_T, zq_U, zq_V, zq_W, zq_X, zq_Y, zq_Z, zq_0, zq_1, zq_2, zq_3, zq_4, zq_5, ↓zq_6, ↓zq_7, ↓zq_8, ↓zq_9, ↓zq_aa, zq_ab, zq_ac, zq_ad, zq_ae, zq_af, zq_ag, ↓zq_ah, ↓zq_ai, ↓zq_aj, zq_ak, ↓zq_al, ↓zq_am, e_b1, e_b2, x_o1, x_o2]
end
section
/-! copy: the two answers, and SHELVES stay related -/
/-- which of n elements have come after q steps -/
def h_W (i j n q t : Nat) : Prop := if j < i then t < q else n ≤ q + t
theorem h_262l {d e i j n : Nat} (hd : d < 8) (he : e < 8) (hi : i + n ≤ 120) (hj : j + n ≤ 120) (M0 : EM) : ∀ (m q : Nat) (y : Int) (M : EM), q + m = n → ((∀ t, t < n → h_W i j n q t → M 198 (120 * e + j + t) = M0 198 (120 * d + i + t)) ∧ (∀ id k, ¬ (id = 198 ∧ ∃ t, t < n ∧ h_W i j n q t ∧ k = 120 * e + j + t) → M id k = M0 id k)) → ∃ M', E_V 262 122 [192, (d : Int), (i : Int), (e : Int), (j : Int), (n : Int), (q : Int), y] M = some ((n : Int), M') ∧ (∀ t, t < n → M' 198 (120 * e + j + t) = M0 198 (120 * d + i + t)) ∧ (∀ id k, ¬ (id = 198 ∧ 120 * e + j ≤ k ∧ k < 120 * e + j + n) → M' id k = M0 id k) := by
  intro m
  induction m with
  | zero =>
    intro q y M hm h
    have e : q = n := by omega
    subst e
    obtain ⟨h1, h2⟩ := h
    refine ⟨M, h_262z, fun t ht => h1 t ht ?_, fun id k hk => h2 id k (fun hc => hk ?_)⟩
    · unfold h_W
      split <;> omega
    · obtain ⟨a, t, b, c, f⟩ := hc
      exact ⟨a, by omega, by omega⟩
  | succ m ih =>
    intro q y M hm h
    obtain ⟨h1, h2⟩ := h
    obtain ⟨t, ht⟩ : ∃ t : Nat, t = if j < i then q else n - 1 - q := ⟨_, rfl⟩
    have tn : t < n := by
      rw [ht]
      split <;> omega
    have nw : ¬ h_W i j n q t := by
      unfold h_W
      rw [ht]
      split <;> omega
    have src : M 198 (120 * d + i + t) = M0 198 (120 * d + i + t) := h2 _ _ (fun hc => by
      obtain ⟨-, t', t1, t2, t3⟩ := hc
      unfold h_W at t2 nw
      by_cases c : i > j
      · rw [if_pos c] at t2 nw ht
        omega
      · rw [if_neg (by omega)] at t2 nw ht
        omega)
    have b1 : 0 ≤ 120 * (d : Int) + (i : Int) + (t : Int) ∧ 120 * (d : Int) + (i : Int) + (t : Int) < 960 := by omega
    have b2 : 0 ≤ 120 * (e : Int) + (j : Int) + (t : Int) ∧ 120 * (e : Int) + (j : Int) + (t : Int) < 960 := by omega
    have n1 : (120 * (d : Int) + (i : Int) + (t : Int)).toNat = 120 * d + i + t := by omega
    have n2 : (120 * (e : Int) + (j : Int) + (t : Int)).toNat = 120 * e + j + t := by omega
    have l : e_op 60 [198, 120 * (d : Int) + (i : Int) + (t : Int)] M = some (M 198 (120 * d + i + t)) := (r_rdE b1.1 b1.2).trans (by rw [n1])
    have st : ∀ v, e_st 100 [198, 120 * (e : Int) + (j : Int) + (t : Int), v] M = some (e_up M 198 (120 * e + j + t) v) := fun v => (r_st (n := 960) (by decide) (by decide +kernel) (by decide +kernel) b2.1 b2.2).trans (by rw [n2]; rfl)
    obtain ⟨M', k1, c1, c2⟩ := ih (q + 1) (t : Int) (e_up M 198 (120 * e + j + t) (M 198 (120 * d + i + t))) (by omega) ⟨fun t' t1 t2 => by
      by_cases c : t' = t
      · subst c
        rw [c_up_s]
        exact src
      · rw [c_up_n (by omega)]
        refine h1 t' t1 ?_
        unfold h_W at t2 ⊢
        by_cases c2 : i > j
        · rw [if_pos c2] at t2 ht ⊢
          omega
        · rw [if_neg (by omega)] at t2 ht ⊢
          omega, fun id k hk => by
      rw [c_up_n (fun hc => hk ⟨hc.1, t, tn, by
        unfold h_W
        by_cases c2 : i > j
        · rw [if_pos c2] at ht ⊢
          omega
        · rw [if_neg (by omega)] at ht ⊢
          omega, hc.2⟩)]
      refine h2 id k (fun hc => hk ?_)
      obtain ⟨a, t', t1, t2, t3⟩ := hc
      refine ⟨a, t', t1, ?_, t3⟩
      unfold h_W at t2 ⊢
      by_cases c2 : i > j
      · rw [if_pos c2] at t2 ⊢
        omega
      · rw [if_neg (by omega)] at t2 ⊢
        omega⟩
    refine ⟨M', ?_, c1, c2⟩
    rw [← k1]
    have hqn : (q : Int) < (n : Int) := by omega
    have htt : (t : Int) = if (j : Int) < (i : Int) then (q : Int) else ((n - 1 - q : Nat) : Int) := by
      by_cases c : i > j
      · rw [if_pos (by omega)]
        rw [if_pos c] at ht
        omega
      · rw [if_neg (by omega)]
        rw [if_neg (by omega)] at ht
        omega
    have w : e_w ((n : Int) - 1) = (n : Int) - 1 ∧ e_w ((n : Int) - 1 - (q : Int)) = ((n - 1 - q : Nat) : Int) ∧ e_w (120 * (e : Int)) = 120 * (e : Int) ∧ e_w (120 * (e : Int) + (j : Int)) = 120 * (e : Int) + (j : Int) ∧ e_w (120 * (e : Int) + (j : Int) + (t : Int)) = 120 * (e : Int) + (j : Int) + (t : Int) ∧ e_w (120 * (d : Int)) = 120 * (d : Int) ∧ e_w (120 * (d : Int) + (i : Int)) = 120 * (d : Int) + (i : Int) ∧ e_w (120 * (d : Int) + (i : Int) + (t : Int)) = 120 * (d : Int) + (i : Int) + (t : Int) ∧ e_w ((q : Int) + 1) = ((q + 1 : Nat) : Int) := by
      clear k1 c1 c2 ih h1 h2 l st src nw htt ht n1 n2
      refine ⟨?_, ?_, ?_, ?_, ?_, ?_, ?_, ?_, ?_⟩
      · exact a_w_id (by omega) (by omega)
      · exact (a_w_id (by omega) (by omega)).trans (by omega)
      · exact a_w_id (by omega) (by omega)
      · exact a_w_id (by omega) (by omega)
      · exact a_w_id (by omega) (by omega)
      · exact a_w_id (by omega) (by omega)
      · exact a_w_id (by omega) (by omega)
      · exact a_w_id (by omega) (by omega)
      · exact (a_w_id (by omega) (by omega)).trans (by omega)
    obtain ⟨w1, w2, w3, w4, w5, w6, w7, w8, w9⟩ := w
    rw [← w2] at htt
    exact h_262s hqn w1 htt w3 w4 w5 w6 w7 w8 w9 l (st _)
theorem h_copy {d i e j n r1 r2 : Int} {M M1 M2 : EM} (hJ : r_J M) (hS : h_S M) (hi : -2147483648 ≤ i ∧ i ≤ 2147483647) (hj : -2147483648 ≤ j ∧ j ≤ 2147483647) (hn : -2147483648 ≤ n ∧ n ≤ 2147483647) (k1 : E_C 143 [8, d, i, e, j, n] M = some (r1, M1)) (k2 : E_C 262 [192, d, i, e, j, n] M1 = some (r2, M2)) : r1 = r2 ∧ h_S M2 := by
  by_cases hde : (0 ≤ d ∧ d < 8) ∧ (0 ≤ e ∧ e < 8)
  · obtain ⟨hd, he⟩ := hde
    obtain ⟨m, hm⟩ : ∃ m : Nat, d = m := ⟨d.toNat, by omega⟩
    obtain ⟨l, hl⟩ : ∃ l : Nat, e = l := ⟨e.toNat, by omega⟩
    subst hm
    subst hl
    have m8 : m < 8 := by omega
    have l8 : l < 8 := by omega
    have hhm := (h_gr145 m8).2
    have hhl := (h_gr145 l8).2
    have c0 := h_154a (M := M) hd.1 hd.2 (h_rd145 m8 M)
    have c1 := h_154a (M := M) he.1 he.2 (h_rd145 l8 M)
    have hx : ((146 + 2 * m : Nat) : Int) ≠ -1 := by omega
    have hy : ((146 + 2 * l : Nat) : Int) ≠ -1 := by omega
    have t1 := h_84 hhm M
    have t2 := h_84 hhl M
    obtain ⟨-, fm1, fm4, -⟩ := h_sf hhm M
    obtain ⟨-, fl1, fl4, -⟩ := h_sf hhl M
    rw [Int.toNat_natCast] at t1 t2 fm1 fm4 fl1 fl4
    have i0 := h_is (d := (m : Int)) M
    have i1 := h_is (d := (l : Int)) M
    rw [if_pos hd] at i0
    rw [if_pos he] at i1
    obtain ⟨a1, a2, a3, -⟩ := r_isD (m : Int) M ⟨hd.1, by omega⟩
    obtain ⟨b1, b2, b3, -⟩ := r_isD (l : Int) M ⟨he.1, by omega⟩
    rw [Int.toNat_natCast] at a1 a2 a3 b1 b2 b3
    have km := hS m m8
    have kl := hS l l8
    by_cases q11 : M 195 m = 0 ∨ M 195 l = 0
    · have u : (if M (146 + 2 * m) 0 = 0 ∧ M (146 + 2 * m) 1 = 0 then (1 : Int) else 0) ≠ 0 ∨ (if M (146 + 2 * l) 0 = 0 ∧ M (146 + 2 * l) 1 = 0 then (1 : Int) else 0) ≠ 0 := by
        rcases q11 with q | q
        · refine Or.inl ?_
          rw [if_pos (by omega)]
          decide
        · refine Or.inr ?_
          rw [if_pos (by omega)]
          decide
      have e1 := Prod.mk.inj (Option.some.inj (k1.symm.trans (h_143b (i := i) (j := j) (n := n) c0 c1 hx hy t1 t2 u)))
      obtain ⟨e1, e2⟩ := e1
      subst e2
      have e3 := Prod.mk.inj (Option.some.inj (k2.symm.trans (h_262b (i := i) (j := j) (n := n) i0 i1 a1 b1 q11)))
      rw [e1, e3.1, e3.2]
      exact ⟨rfl, hS⟩
    · have u1 : ¬ (M (146 + 2 * m) 0 = 0 ∧ M (146 + 2 * m) 1 = 0) := by omega
      have u2 : ¬ (M (146 + 2 * l) 0 = 0 ∧ M (146 + 2 * l) 1 = 0) := by omega
      rw [if_neg u1] at t1
      rw [if_neg u2] at t2
      by_cases q12 : M 195 m ≠ 2 ∨ M 195 l ≠ 2 ∨ M 196 m ≠ M 196 l
      · have u : M (146 + 2 * m) 1 = 0 ∨ M (146 + 2 * l) 1 = 0 ∨ M (146 + 2 * m) 4 ≠ M (146 + 2 * l) 4 := by omega
        have e1 := Prod.mk.inj (Option.some.inj (k1.symm.trans (h_143c (i := i) (j := j) (n := n) c0 c1 hx hy t1 t2 fm1 fl1 fm4 fl4 u)))
        obtain ⟨e1, e2⟩ := e1
        subst e2
        have e3 := Prod.mk.inj (Option.some.inj (k2.symm.trans (h_262c (i := i) (j := j) (n := n) i0 i1 a1 b1 (by omega) (by omega) a2 b2 q12)))
        rw [e1, e3.1, e3.2]
        exact ⟨rfl, hS⟩
      · have rm : M 195 m = 2 ∧ M (146 + 2 * m) 1 = 1 ∧ M (146 + 2 * m) 4 = M 196 m ∧ M (146 + 2 * m) 5 = M 197 m ∧ ∀ i, i < 120 → M (147 + 2 * m) i = M 198 (120 * m + i) := by
          rcases km with ⟨a, -⟩ | ⟨a, -⟩ | ⟨a, -, c, f, g, h⟩
          · omega
          · omega
          · exact ⟨a, c, f, g, h⟩
        have rl : M 195 l = 2 ∧ M (146 + 2 * l) 1 = 1 ∧ M (146 + 2 * l) 4 = M 196 l ∧ M (146 + 2 * l) 5 = M 197 l ∧ ∀ i, i < 120 → M (147 + 2 * l) i = M 198 (120 * l + i) := by
          rcases kl with ⟨a, -⟩ | ⟨a, -⟩ | ⟨a, -, c, f, g, h⟩
          · omega
          · omega
          · exact ⟨a, c, f, g, h⟩
        obtain ⟨rm0, rm1, rm4, rm5, rme⟩ := rm
        obtain ⟨rl0, rl1, rl4, rl5, rle⟩ := rl
        have ss : M 196 m = M 196 l := by omega
        rw [rm4] at fm4
        rw [rl4, ← ss] at fl4
        rw [← ss] at b2
        rw [rm0] at a1
        rw [rl0] at b1
        have zm := hJ.2.1 m m8
        have zl := hJ.2.1 l l8
        have g1 := c_hasRun (i := i) (n := n) hhm hJ.1 hi hn
        have g2 := c_hasRun (i := j) (n := n) hhl hJ.1 hj hn
        rw [Int.toNat_natCast, rm5] at g1
        rw [Int.toNat_natCast, rl5] at g2
        have p1 : M (146 + 2 * m) 1 ≠ 0 := by omega
        have p2 : M (146 + 2 * l) 1 ≠ 0 := by omega
        have wi : 0 ≤ i → e_w (M 197 m - i) = M 197 m - i := fun h => a_w_id (by omega) (by omega)
        have wj : 0 ≤ j → e_w (M 197 l - j) = M 197 l - j := fun h => a_w_id (by omega) (by omega)
        by_cases q13 : 0 ≤ n ∧ 0 ≤ i ∧ 0 ≤ j ∧ n ≤ M 197 m - i ∧ n ≤ M 197 l - j
        · obtain ⟨n0, i00, j00, nm, nl⟩ := q13
          have u3 : 0 ≤ i ∧ 0 ≤ n ∧ i + n ≤ M 197 m := ⟨i00, n0, by clear wi wj; omega⟩
          have u4 : 0 ≤ j ∧ 0 ≤ n ∧ j + n ≤ M 197 l := ⟨j00, n0, by clear wi wj; omega⟩
          rw [if_pos u3] at g1
          rw [if_pos u4] at g2
          obtain ⟨x1, x2, x3, x4, x5, -⟩ := w_sh hhm
          obtain ⟨y1, y2, y3, y4, y5, -⟩ := w_sh hhl
          have f5 : e_gf 518 [((146 + 2 * m : Nat) : Int)] M = some (((146 + 2 * m : Nat) : Int) + 1) := (c_gr x1 (by decide +kernel)).trans (congrArg some x5)
          have f6 : e_gf 518 [((146 + 2 * l : Nat) : Int)] M = some (((146 + 2 * l : Nat) : Int) + 1) := (c_gr y1 (by decide +kernel)).trans (congrArg some y5)
          obtain ⟨I, hI⟩ : ∃ I : Nat, i = I := ⟨i.toNat, by clear wi wj; omega⟩
          obtain ⟨J, hJ'⟩ : ∃ J : Nat, j = J := ⟨j.toNat, by clear wi wj; omega⟩
          obtain ⟨L, hL⟩ : ∃ L : Nat, n = L := ⟨n.toNat, by clear wi wj; omega⟩
          subst hI
          subst hJ'
          subst hL
          obtain ⟨-, -, -, o1, -⟩ := c_el hhm
          obtain ⟨-, -, -, o2, -⟩ := c_el hhl
          rw [x5] at o1
          rw [y5] at o2
          have cp : e_cp [((146 + 2 * m : Nat) : Int) + 1, (I : Int), ((146 + 2 * l : Nat) : Int) + 1, (J : Int), (L : Int)] M = some (e_cpm M (147 + 2 * m) I (147 + 2 * l) J L) := by
            refine (if_pos ⟨o2, o1, i00, j00, n0, by rw [x4]; clear wi wj; omega, by rw [y4]; clear wi wj; omega⟩).trans ?_
            rw [show (((146 + 2 * m : Nat) : Int) + 1).toNat = 147 + 2 * m by clear wi wj; omega, show (((146 + 2 * l : Nat) : Int) + 1).toNat = 147 + 2 * l by clear wi wj; omega, Int.toNat_natCast, Int.toNat_natCast, Int.toNat_natCast]
          have e1 := Prod.mk.inj (Option.some.inj (k1.symm.trans (h_143e c0 c1 hx hy t1 t2 fm1 fl1 fm4 fl4 p1 p2 g1 g2 (by decide) (by decide) f5 f6 cp)))
          obtain ⟨e1, e2⟩ := e1
          have cO : ∀ id k, id ≠ 147 + 2 * l → M1 id k = M id k := fun id k h => by rw [e2]; exact if_neg (fun hc => h hc.1)
          have cI : ∀ k, M1 (147 + 2 * l) k = if J ≤ k ∧ k < J + L then M (147 + 2 * m) (I + (k - J)) else M (147 + 2 * l) k := fun k => by
            rw [e2]
            unfold e_cpm
            by_cases c : J ≤ k ∧ k < J + L
            · rw [if_pos ⟨rfl, c⟩, if_pos c]
            · rw [if_neg (fun hc => c hc.2), if_neg c]
          clear e2
          have i0' := h_is (d := (m : Int)) M1
          have i1' := h_is (d := (l : Int)) M1
          rw [if_pos hd] at i0'
          rw [if_pos he] at i1'
          obtain ⟨A1, A2, A3, -⟩ := r_isD (m : Int) M1 ⟨hd.1, by clear wi wj; omega⟩
          obtain ⟨B1, B2, B3, -⟩ := r_isD (l : Int) M1 ⟨he.1, by clear wi wj; omega⟩
          rw [Int.toNat_natCast, cO _ _ (by clear wi wj; omega)] at A1 A2 A3 B1 B2 B3
          rw [rm0] at A1
          rw [rl0] at B1
          rw [← ss] at B2
          have wi' := wi i00
          have wj' := wj j00
          clear wi wj
          have bI : I + L ≤ 120 := by clear wi' wj'; omega
          have bJ : J + L ≤ 120 := by clear wi' wj'; omega
          obtain ⟨M', v1, v2, v3⟩ := h_262l (d := m) (e := l) (i := I) (j := J) (n := L) m8 l8 bI bJ M1 L 0 0 M1 (Nat.zero_add _) ⟨fun t ht hw => by
            exfalso
            unfold h_W at hw
            clear wi' wj'
            split at hw <;> omega, fun _ _ _ => rfl⟩
          have v1' : E_V 262 122 [192, (m : Int), (I : Int), (l : Int), (J : Int), (L : Int), 0, 0] M1 = some ((L : Int), M') := v1
          have e3 := Prod.mk.inj (Option.some.inj (k2.symm.trans (h_262e i0' i1' A1 B1 A2 B2 A3 B3 wi' wj' n0 i00 j00 nm nl v1')))
          obtain ⟨e3, e4⟩ := e3
          subst e4
          clear wi' wj'
          refine ⟨e1.trans e3.symm, fun d' hd' => ?_⟩
          have z : ∀ id k, id ≠ 198 → id ≠ 147 + 2 * l → M2 id k = M id k := fun id k a c => (v3 id k (fun h => a h.1)).trans (cO id k c)
          rw [z 195 _ (by decide) (by omega), z 196 _ (by decide) (by omega), z 197 _ (by decide) (by omega), z (146 + 2 * d') _ (by omega) (by omega), z (146 + 2 * d') _ (by omega) (by omega), z (146 + 2 * d') _ (by omega) (by omega), z (146 + 2 * d') _ (by omega) (by omega)]
          rcases hS d' hd' with h | h | ⟨h1, h2, h3, h4, h5, h6⟩
          · exact Or.inl h
          · exact Or.inr (Or.inl h)
          · refine Or.inr (Or.inr ⟨h1, h2, h3, h4, h5, fun k hk => ?_⟩)
            by_cases c : d' = l
            · subst c
              rw [v3 _ _ (by omega), cI]
              by_cases c2 : J ≤ k ∧ k < J + L
              · rw [if_pos c2]
                have vv := v2 (k - J) (by omega)
                rw [show 120 * d' + J + (k - J) = 120 * d' + k by omega, cO _ _ (by omega)] at vv
                rw [vv, rme _ (by omega)]
                congr 1
                omega
              · rw [if_neg c2, v3 _ _ (by omega), cO _ _ (by omega)]
                exact h6 k hk
            · rw [v3 _ _ (by omega), v3 _ _ (by omega), cO _ _ (by omega), cO _ _ (by omega)]
              exact h6 k hk
        · have u : (if 0 ≤ i ∧ 0 ≤ n ∧ i + n ≤ M 197 m then (1 : Int) else 0) = 0 ∨ (if 0 ≤ j ∧ 0 ≤ n ∧ j + n ≤ M 197 l then (1 : Int) else 0) = 0 := by
            clear wi wj
            by_cases c : 0 ≤ i ∧ 0 ≤ n ∧ i + n ≤ M 197 m
            · refine Or.inr (if_neg (fun h => q13 ?_))
              omega
            · exact Or.inl (if_neg c)
          have e1 := Prod.mk.inj (Option.some.inj (k1.symm.trans (h_143d c0 c1 hx hy t1 t2 fm1 fl1 fm4 fl4 p1 p2 g1 g2 u)))
          obtain ⟨e1, e2⟩ := e1
          subst e2
          have e3 := Prod.mk.inj (Option.some.inj (k2.symm.trans (h_262d i0 i1 a1 b1 a2 b2 a3 b3 wi wj q13)))
          rw [e1, e3.1, e3.2]
          exact ⟨rfl, hS⟩
  · have cx : ∃ x y, E_C 154 [8, d] M = some (x, M) ∧ E_C 154 [8, e] M = some (y, M) ∧ (x = -1 ∨ y = -1) := by
      by_cases hd : 0 ≤ d ∧ d < 8
      · have he : ¬ (0 ≤ e ∧ e < 8) := fun h => hde ⟨hd, h⟩
        obtain ⟨m, hm⟩ : ∃ m : Nat, d = m := ⟨d.toNat, by omega⟩
        refine ⟨((146 + 2 * m : Nat) : Int), -1, ?_, h_154n he, Or.inr rfl⟩
        rw [hm]
        exact h_154a (by omega) (by omega) (h_rd145 (by omega) M)
      · by_cases he : 0 ≤ e ∧ e < 8
        · obtain ⟨m, hm⟩ : ∃ m : Nat, e = m := ⟨e.toNat, by omega⟩
          refine ⟨-1, ((146 + 2 * m : Nat) : Int), h_154n hd, ?_, Or.inl rfl⟩
          rw [hm]
          exact h_154a (by omega) (by omega) (h_rd145 (by omega) M)
        · exact ⟨-1, -1, h_154n hd, h_154n he, Or.inl rfl⟩
    obtain ⟨x, y, c0, c1, c2⟩ := cx
    have e1 := Prod.mk.inj (Option.some.inj (k1.symm.trans (h_143a (i := i) (j := j) (n := n) c0 c1 c2)))
    obtain ⟨e1, e2⟩ := e1
    subst e2
    have i0 := h_is (d := d) M1
    have i1 := h_is (d := e) M1
    have u : (if 0 ≤ d ∧ d < 8 then (1 : Int) else 0) = 0 ∨ (if 0 ≤ e ∧ e < 8 then (1 : Int) else 0) = 0 := by
      by_cases hd : 0 ≤ d ∧ d < 8
      · exact Or.inr (if_neg (fun h => hde ⟨hd, h⟩))
      · exact Or.inl (if_neg hd)
    have e3 := Prod.mk.inj (Option.some.inj (k2.symm.trans (h_262a (i := i) (j := j) (n := n) i0 i1 u)))
    rw [e1, e3.1, e3.2]
    exact ⟨rfl, hS⟩
end
section
/-! the relation's keepers by frames; sky's answers -/
theorem h_cG {W : AW} {M M1 : EM} (h4 : a_fr W M M1) (hW : (W.all fun w => decide (8 ≤ w.1) && decide (w.1 < 192)) = true) : ∀ id i, 192 ≤ id → M1 id i = M id i := fun id i hi => h4 id i (fun w hw hc => by
  have h := List.all_eq_true.mp hW w hw
  simp only [Bool.and_eq_true, decide_eq_true_eq] at h
  omega)
theorem h_keB {W : AW} {M M' : EM} (h : h_av h_KB W = true) (hf : a_fr W M M') (hB : h_B M 0 (r_G M)) : h_B M' 0 (r_G M') := h_keepB (h_av_ok h hf) hB
theorem h_keI {W : AW} {M M' : EM} (h : h_av h_KI W = true) (hf : a_fr W M M') (hB : h_B M 68 (r_Gi M)) : h_B M' 68 (r_Gi M') := h_keepI (h_av_ok h hf) hB
theorem h_keS {W : AW} {M M' : EM} (h : h_av h_KS W = true) (hf : a_fr W M M') (hS : h_S M) : h_S M' := h_keepS (h_av_ok h hf) hS
theorem h_keF {W : AW} {M M' : EM} (h : h_av [(165, 0, 0)] W = true) (hf : a_fr W M M') (h0 : M 165 0 = 0) : M' 165 0 = 0 := (h_av_ok h hf (165, 0, 0) List.mem_cons_self 0 (Nat.le_refl _) (Nat.le_refl _)).trans h0
theorem h_121n {d x z : Int} {M : EM} (c0 : E_C 154 [8, d] M = some (x, M)) (c1 : E_C 156 [x, -1] M = some (z, M)) (hz : z ≠ 0) : E_C 121 [8, d] M = some (z, M) := by
  have s0 : E_C 121 [8, d] M = e_tv E_C (E_V 121) e_t121_0 [8, d, 0, 0] M := r_ent (u := 121) (as := [8, d]) (M := M) (decide_eq_true c_this)
  rw [s0]
  unfold e_t121_0
  simp [zq_a, zq_b, zq_c, zq_d, zq_e, zq_f, zq_g, zq_h, zq_i, zq_j, zq_k, zq_l, zq_m, zq_n, zq_o, zq_p, zq_q, zq_r, zq_s, zq_t, zq_u, zq_v, zq_w, zq_x, zq_y, zq_z, zq_A, zq_B, zq_C, zq_D, zq_E, zq_F, zq_G, zq_H, zq_I, zq_J, zq_K, zq_L, ↓zq_M, ↓zq_N, ↓zq_O, ↓zq_P, ↓zq_Q, ↓zq_R, zq_S, zq_T, zq_U, zq_V, zq_W, zq_X, zq_Y, zq_Z, zq_0, zq_1, zq_2, zq_3, zq_4, zq_5, ↓zq_6, ↓zq_7, ↓zq_8, ↓zq_9, ↓zq_aa, zq_ab, zq_ac, zq_ad, zq_ae, zq_af, zq_ag, ↓zq_ah, ↓zq_ai, ↓zq_aj, zq_ak, ↓zq_al, ↓zq_am, e_b1, e_b2, x_o1, x_o2, c0, c1, hz]
theorem h_121y {d h r n : Int} {M M1 : EM} (c0 : E_C 154 [8, d] M = some (h, M)) (hx : h ≠ -1) (c1 : E_C 156 [h, -1] M = some (0, M)) (k : E_C 76 [26, h] M = some (r, M1)) (f : e_gf 517 [h] M1 = some n) : E_C 121 [8, d] M = some (n, M1) := by
  have s0 : E_C 121 [8, d] M = e_tv E_C (E_V 121) e_t121_0 [8, d, 0, 0] M := r_ent (u := 121) (as := [8, d]) (M := M) (decide_eq_true c_this)
  rw [s0]
  unfold e_t121_0
  simp [zq_a, zq_b, zq_c, zq_d, zq_e, zq_f, zq_g, zq_h, zq_i, zq_j, zq_k, zq_l, zq_m, zq_n, zq_o, zq_p, zq_q, zq_r, zq_s, zq_t, zq_u, zq_v, zq_w, zq_x, zq_y, zq_z, zq_A, zq_B, zq_C, zq_D, zq_E, zq_F, zq_G, zq_H, zq_I, zq_J, zq_K, zq_L, ↓zq_M, ↓zq_N, ↓zq_O, ↓zq_P, ↓zq_Q, ↓zq_R, zq_S, zq_T, zq_U, zq_V, zq_W, zq_X, zq_Y, zq_Z, zq_0, zq_1, zq_2, zq_3, zq_4, zq_5, ↓zq_6, ↓zq_7, ↓zq_8, ↓zq_9, ↓zq_aa, zq_ab, zq_ac, zq_ad, zq_ae, zq_af, zq_ag, ↓zq_ah, ↓zq_ai, ↓zq_aj, zq_ak, ↓zq_al, ↓zq_am, e_b1, e_b2, x_o1, x_o2, p_704, p_195, c0, hx, c1, k, f]
theorem h_121i {d h r1 : Int} {M M1 : EM} (hh : h ∈ a_SH) (c0 : E_C 154 [8, d] M = some (h, M)) (c1 : E_C 156 [h, -1] M = some (0, M)) (k1 : E_C 121 [8, d] M = some (r1, M1)) : r1 = M1 h.toNat 5 := by
  have hx : h ≠ -1 := by
    have := w_sh hh
    omega
  cases hk : E_C 76 [26, h] M with
  | none =>
    exfalso
    have s0 : E_C 121 [8, d] M = e_tv E_C (E_V 121) e_t121_0 [8, d, 0, 0] M := r_ent (u := 121) (as := [8, d]) (M := M) (decide_eq_true c_this)
    rw [s0] at k1
    unfold e_t121_0 at k1
    simp [e_tv, e_ev, e_sv, e_b1, e_b2, x_o1, x_o2, p_704, p_195, c0, hx, c1, hk] at k1
  | some z =>
    obtain ⟨r, N⟩ := z
    obtain ⟨-, -, -, f5⟩ := h_sf hh N
    have e := Prod.mk.inj (Option.some.inj (k1.symm.trans (h_121y c0 hx c1 hk f5)))
    rw [e.1, e.2]
end
