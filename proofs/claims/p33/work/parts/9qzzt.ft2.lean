/-! a FAULT suffered by the bench and taken out again -/
theorem ft_30a {f0 cc : Int} {B : EM} (h0 : B 170 0 = cc) (q1 : f0 < 1) (q2 : f0 ≤ cc) : E_C 30 [170, f0] B = some (0, B) := by
  have q1n : ¬ 1 ≤ f0 := by omega
  have q2n : ¬ cc < f0 := by omega
  have j73 : E_V 30 73 [170, f0] B = some (0, B) := by
    rw [E_V_eq]
    show e_tv E_C (E_V 30) e_t30_73 [170, f0] B = _
    unfold e_t30_73
    simp [zq_a, zq_b, zq_c, zq_d, zq_e, zq_f, zq_g, zq_h, zq_i, zq_j, zq_k, zq_l, zq_m, zq_n, zq_o, zq_p, zq_q, zq_r, zq_s, zq_t, zq_u, zq_v, zq_w, zq_x, zq_y, zq_z, zq_A, zq_B, zq_C, zq_D, zq_E, zq_F, zq_G, zq_H, zq_I, zq_J, zq_K, zq_L, ↓zq_M, ↓zq_N, ↓zq_O, ↓zq_P, ↓zq_Q, ↓zq_R, zq_S, zq_T, zq_U, zq_V, zq_W, zq_X, zq_Y, zq_Z, zq_0, zq_1, zq_2, zq_3, zq_4, zq_5, ↓zq_6, ↓zq_7, ↓zq_8, ↓zq_9, ↓zq_aa, zq_ab, zq_ac, zq_ad, zq_ae, zq_af, zq_ag, ↓zq_ah, ↓zq_ai, ↓zq_aj, zq_ak, ↓zq_al, ↓zq_am, e_b1, e_b2, x_o1, x_o2]
  rw [r_ent (show e_rok 30 [170, f0] = true from bx_r (M := B) rfl (by decide +kernel))]
  show e_tv E_C (E_V 30) e_t30_0 [170, f0] B = _
  unfold e_t30_0
  simp [zq_a, zq_b, zq_c, zq_d, zq_e, zq_f, zq_g, zq_h, zq_i, zq_j, zq_k, zq_l, zq_m, zq_n, zq_o, zq_p, zq_q, zq_r, zq_s, zq_t, zq_u, zq_v, zq_w, zq_x, zq_y, zq_z, zq_A, zq_B, zq_C, zq_D, zq_E, zq_F, zq_G, zq_H, zq_I, zq_J, zq_K, zq_L, ↓zq_M, ↓zq_N, ↓zq_O, ↓zq_P, ↓zq_Q, ↓zq_R, zq_S, zq_T, zq_U, zq_V, zq_W, zq_X, zq_Y, zq_Z, zq_0, zq_1, zq_2, zq_3, zq_4, zq_5, ↓zq_6, ↓zq_7, ↓zq_8, ↓zq_9, ↓zq_aa, zq_ab, zq_ac, zq_ad, zq_ae, zq_af, zq_ag, ↓zq_ah, ↓zq_ai, ↓zq_aj, zq_ak, ↓zq_al, ↓zq_am, e_b1, e_b2, x_o1, x_o2, bx_F0, h0, q1, q1n, q2, q2n, j73]
theorem ft_30b {f0 cc j0 v v1 : Int} {B B1 B' : EM} (h0 : B 170 0 = cc) (q1 : 1 ≤ f0) (q2 : f0 ≤ cc) (wj : e_w (f0 - 1) = j0) (ha : E_C 146 [176, j0] B = some (v, B)) (wv : e_w (v + 1) = v1) (hl : E_C 147 [176, j0, v1] B = some (0, B1)) (hd : E_C 10 [170, j0] B1 = some (0, B')) : E_C 30 [170, f0] B = some (0, B') := by
  have q1n : ¬ f0 < 1 := by omega
  have q2n : ¬ cc < f0 := by omega
  have j73 : E_V 30 73 [170, f0] B' = some (0, B') := by
    rw [E_V_eq]
    show e_tv E_C (E_V 30) e_t30_73 [170, f0] B' = _
    unfold e_t30_73
    simp [zq_a, zq_b, zq_c, zq_d, zq_e, zq_f, zq_g, zq_h, zq_i, zq_j, zq_k, zq_l, zq_m, zq_n, zq_o, zq_p, zq_q, zq_r, zq_s, zq_t, zq_u, zq_v, zq_w, zq_x, zq_y, zq_z, zq_A, zq_B, zq_C, zq_D, zq_E, zq_F, zq_G, zq_H, zq_I, zq_J, zq_K, zq_L, ↓zq_M, ↓zq_N, ↓zq_O, ↓zq_P, ↓zq_Q, ↓zq_R, zq_S, zq_T, zq_U, zq_V, zq_W, zq_X, zq_Y, zq_Z, zq_0, zq_1, zq_2, zq_3, zq_4, zq_5, ↓zq_6, ↓zq_7, ↓zq_8, ↓zq_9, ↓zq_aa, zq_ab, zq_ac, zq_ad, zq_ae, zq_af, zq_ag, ↓zq_ah, ↓zq_ai, ↓zq_aj, zq_ak, ↓zq_al, ↓zq_am, e_b1, e_b2, x_o1, x_o2]
  rw [r_ent (show e_rok 30 [170, f0] = true from bx_r (M := B) rfl (by decide +kernel))]
  show e_tv E_C (E_V 30) e_t30_0 [170, f0] B = _
  unfold e_t30_0
  simp [zq_a, zq_b, zq_c, zq_d, zq_e, zq_f, zq_g, zq_h, zq_i, zq_j, zq_k, zq_l, zq_m, zq_n, zq_o, zq_p, zq_q, zq_r, zq_s, zq_t, zq_u, zq_v, zq_w, zq_x, zq_y, zq_z, zq_A, zq_B, zq_C, zq_D, zq_E, zq_F, zq_G, zq_H, zq_I, zq_J, zq_K, zq_L, ↓zq_M, ↓zq_N, ↓zq_O, ↓zq_P, ↓zq_Q, ↓zq_R, zq_S, zq_T, zq_U, zq_V, zq_W, zq_X, zq_Y, zq_Z, zq_0, zq_1, zq_2, zq_3, zq_4, zq_5, ↓zq_6, ↓zq_7, ↓zq_8, ↓zq_9, ↓zq_aa, zq_ab, zq_ac, zq_ad, zq_ae, zq_af, zq_ag, ↓zq_ah, ↓zq_ai, ↓zq_aj, zq_ak, ↓zq_al, ↓zq_am, e_b1, e_b2, x_o1, x_o2, bx_F0, bx_Gd, h0, q1, q1n, q2, q2n, wj, ha, wv, hl, hd, j73]
theorem ft_30c {f0 cc z1 z2 G : Int} {B B' : EM} (h0 : B 170 0 = cc) (q1 : 1 ≤ f0) (q2 : cc < f0) (w1 : e_w (f0 - cc) = z1) (w2 : e_w (z1 - 1) = z2) (hg : E_C 32 [170, z2] B = some (G, B)) (hl : E_C 147 [172, G, 0] B = some (0, B')) : E_C 30 [170, f0] B = some (0, B') := by
  have q1n : ¬ f0 < 1 := by omega
  have q2n : ¬ f0 ≤ cc := by omega
  have j73 : E_V 30 73 [170, f0] B' = some (0, B') := by
    rw [E_V_eq]
    show e_tv E_C (E_V 30) e_t30_73 [170, f0] B' = _
    unfold e_t30_73
    simp [zq_a, zq_b, zq_c, zq_d, zq_e, zq_f, zq_g, zq_h, zq_i, zq_j, zq_k, zq_l, zq_m, zq_n, zq_o, zq_p, zq_q, zq_r, zq_s, zq_t, zq_u, zq_v, zq_w, zq_x, zq_y, zq_z, zq_A, zq_B, zq_C, zq_D, zq_E, zq_F, zq_G, zq_H, zq_I, zq_J, zq_K, zq_L, ↓zq_M, ↓zq_N, ↓zq_O, ↓zq_P, ↓zq_Q, ↓zq_R, zq_S, zq_T, zq_U, zq_V, zq_W, zq_X, zq_Y, zq_Z, zq_0, zq_1, zq_2, zq_3, zq_4, zq_5, ↓zq_6, ↓zq_7, ↓zq_8, ↓zq_9, ↓zq_aa, zq_ab, zq_ac, zq_ad, zq_ae, zq_af, zq_ag, ↓zq_ah, ↓zq_ai, ↓zq_aj, zq_ak, ↓zq_al, ↓zq_am, e_b1, e_b2, x_o1, x_o2]
  rw [r_ent (show e_rok 30 [170, f0] = true from bx_r (M := B) rfl (by decide +kernel))]
  show e_tv E_C (E_V 30) e_t30_0 [170, f0] B = _
  unfold e_t30_0
  simp [zq_a, zq_b, zq_c, zq_d, zq_e, zq_f, zq_g, zq_h, zq_i, zq_j, zq_k, zq_l, zq_m, zq_n, zq_o, zq_p, zq_q, zq_r, zq_s, zq_t, zq_u, zq_v, zq_w, zq_x, zq_y, zq_z, zq_A, zq_B, zq_C, zq_D, zq_E, zq_F, zq_G, zq_H, zq_I, zq_J, zq_K, zq_L, ↓zq_M, ↓zq_N, ↓zq_O, ↓zq_P, ↓zq_Q, ↓zq_R, zq_S, zq_T, zq_U, zq_V, zq_W, zq_X, zq_Y, zq_Z, zq_0, zq_1, zq_2, zq_3, zq_4, zq_5, ↓zq_6, ↓zq_7, ↓zq_8, ↓zq_9, ↓zq_aa, zq_ab, zq_ac, zq_ad, zq_ae, zq_af, zq_ag, ↓zq_ah, ↓zq_ai, ↓zq_aj, zq_ak, ↓zq_al, ↓zq_am, e_b1, e_b2, x_o1, x_o2, bx_F0, bx_G9, h0, q1, q1n, q2, q2n, w1, w2, hg, hl, j73]
theorem ft_31a {f0 cc G : Int} {B : EM} (h0 : B 170 0 = cc) (q1 : f0 < 1) (q2 : f0 ≤ cc) : E_C 31 [170, f0, G] B = some (0, B) := by
  have q1n : ¬ 1 ≤ f0 := by omega
  have q2n : ¬ cc < f0 := by omega
  have j62 : E_V 31 62 [170, f0, G] B = some (0, B) := by
    rw [E_V_eq]
    show e_tv E_C (E_V 31) e_t31_62 [170, f0, G] B = _
    unfold e_t31_62
    simp [zq_a, zq_b, zq_c, zq_d, zq_e, zq_f, zq_g, zq_h, zq_i, zq_j, zq_k, zq_l, zq_m, zq_n, zq_o, zq_p, zq_q, zq_r, zq_s, zq_t, zq_u, zq_v, zq_w, zq_x, zq_y, zq_z, zq_A, zq_B, zq_C, zq_D, zq_E, zq_F, zq_G, zq_H, zq_I, zq_J, zq_K, zq_L, ↓zq_M, ↓zq_N, ↓zq_O, ↓zq_P, ↓zq_Q, ↓zq_R, zq_S, zq_T, zq_U, zq_V, zq_W, zq_X, zq_Y, zq_Z, zq_0, zq_1, zq_2, zq_3, zq_4, zq_5, ↓zq_6, ↓zq_7, ↓zq_8, ↓zq_9, ↓zq_aa, zq_ab, zq_ac, zq_ad, zq_ae, zq_af, zq_ag, ↓zq_ah, ↓zq_ai, ↓zq_aj, zq_ak, ↓zq_al, ↓zq_am, e_b1, e_b2, x_o1, x_o2]
  rw [r_ent (show e_rok 31 [170, f0, G] = true from bx_r (M := B) rfl (by decide +kernel))]
  show e_tv E_C (E_V 31) e_t31_0 [170, f0, G] B = _
  unfold e_t31_0
  simp [zq_a, zq_b, zq_c, zq_d, zq_e, zq_f, zq_g, zq_h, zq_i, zq_j, zq_k, zq_l, zq_m, zq_n, zq_o, zq_p, zq_q, zq_r, zq_s, zq_t, zq_u, zq_v, zq_w, zq_x, zq_y, zq_z, zq_A, zq_B, zq_C, zq_D, zq_E, zq_F, zq_G, zq_H, zq_I, zq_J, zq_K, zq_L, ↓zq_M, ↓zq_N, ↓zq_O, ↓zq_P, ↓zq_Q, ↓zq_R, zq_S, zq_T, zq_U, zq_V, zq_W, zq_X, zq_Y, zq_Z, zq_0, zq_1, zq_2, zq_3, zq_4, zq_5, ↓zq_6, ↓zq_7, ↓zq_8, ↓zq_9, ↓zq_aa, zq_ab, zq_ac, zq_ad, zq_ae, zq_af, zq_ag, ↓zq_ah, ↓zq_ai, ↓zq_aj, zq_ak, ↓zq_al, ↓zq_am, e_b1, e_b2, x_o1, x_o2, bx_F0, h0, q1, q1n, q2, q2n, j62]
theorem ft_31b {f0 cc j0 v v1 G : Int} {B B1 B' : EM} (h0 : B 170 0 = cc) (q1 : 1 ≤ f0) (q2 : f0 ≤ cc) (wj : e_w (f0 - 1) = j0) (ha : E_C 146 [176, j0] B = some (v, B)) (wv : e_w (v - 1) = v1) (hl : E_C 147 [176, j0, v1] B = some (0, B1)) (hd : E_C 10 [170, j0] B1 = some (0, B')) : E_C 31 [170, f0, G] B = some (0, B') := by
  have q1n : ¬ f0 < 1 := by omega
  have q2n : ¬ cc < f0 := by omega
  have j62 : E_V 31 62 [170, f0, G] B' = some (0, B') := by
    rw [E_V_eq]
    show e_tv E_C (E_V 31) e_t31_62 [170, f0, G] B' = _
    unfold e_t31_62
    simp [zq_a, zq_b, zq_c, zq_d, zq_e, zq_f, zq_g, zq_h, zq_i, zq_j, zq_k, zq_l, zq_m, zq_n, zq_o, zq_p, zq_q, zq_r, zq_s, zq_t, zq_u, zq_v, zq_w, zq_x, zq_y, zq_z, zq_A, zq_B, zq_C, zq_D, zq_E, zq_F, zq_G, zq_H, zq_I, zq_J, zq_K, zq_L, ↓zq_M, ↓zq_N, ↓zq_O, ↓zq_P, ↓zq_Q, ↓zq_R, zq_S, zq_T, zq_U, zq_V, zq_W, zq_X, zq_Y, zq_Z, zq_0, zq_1, zq_2, zq_3, zq_4, zq_5, ↓zq_6, ↓zq_7, ↓zq_8, ↓zq_9, ↓zq_aa, zq_ab, zq_ac, zq_ad, zq_ae, zq_af, zq_ag, ↓zq_ah, ↓zq_ai, ↓zq_aj, zq_ak, ↓zq_al, ↓zq_am, e_b1, e_b2, x_o1, x_o2]
  rw [r_ent (show e_rok 31 [170, f0, G] = true from bx_r (M := B) rfl (by decide +kernel))]
  show e_tv E_C (E_V 31) e_t31_0 [170, f0, G] B = _
  unfold e_t31_0
  simp [zq_a, zq_b, zq_c, zq_d, zq_e, zq_f, zq_g, zq_h, zq_i, zq_j, zq_k, zq_l, zq_m, zq_n, zq_o, zq_p, zq_q, zq_r, zq_s, zq_t, zq_u, zq_v, zq_w, zq_x, zq_y, zq_z, zq_A, zq_B, zq_C, zq_D, zq_E, zq_F, zq_G, zq_H, zq_I, zq_J, zq_K, zq_L, ↓zq_M, ↓zq_N, ↓zq_O, ↓zq_P, ↓zq_Q, ↓zq_R, zq_S, zq_T, zq_U, zq_V, zq_W, zq_X, zq_Y, zq_Z, zq_0, zq_1, zq_2, zq_3, zq_4, zq_5, ↓zq_6, ↓zq_7, ↓zq_8, ↓zq_9, ↓zq_aa, zq_ab, zq_ac, zq_ad, zq_ae, zq_af, zq_ag, ↓zq_ah, ↓zq_ai, ↓zq_aj, zq_ak, ↓zq_al, ↓zq_am, e_b1, e_b2, x_o1, x_o2, bx_F0, bx_Gd, h0, q1, q1n, q2, q2n, wj, ha, wv, hl, hd, j62]
theorem ft_31c {f0 cc G : Int} {B B' : EM} (h0 : B 170 0 = cc) (q1 : 1 ≤ f0) (q2 : cc < f0) (hl : E_C 147 [172, G, 1] B = some (0, B')) : E_C 31 [170, f0, G] B = some (0, B') := by
  have q1n : ¬ f0 < 1 := by omega
  have q2n : ¬ f0 ≤ cc := by omega
  have j62 : E_V 31 62 [170, f0, G] B' = some (0, B') := by
    rw [E_V_eq]
    show e_tv E_C (E_V 31) e_t31_62 [170, f0, G] B' = _
    unfold e_t31_62
    simp [zq_a, zq_b, zq_c, zq_d, zq_e, zq_f, zq_g, zq_h, zq_i, zq_j, zq_k, zq_l, zq_m, zq_n, zq_o, zq_p, zq_q, zq_r, zq_s, zq_t, zq_u, zq_v, zq_w, zq_x, zq_y, zq_z, zq_A, zq_B, zq_C, zq_D, zq_E, zq_F, zq_G, zq_H, zq_I, zq_J, zq_K, zq_L, ↓zq_M, ↓zq_N, ↓zq_O, ↓zq_P, ↓zq_Q, ↓zq_R, zq_S, zq_T, zq_U, zq_V, zq_W, zq_X, zq_Y, zq_Z, zq_0, zq_1, zq_2, zq_3, zq_4, zq_5, ↓zq_6, ↓zq_7, ↓zq_8, ↓zq_9, ↓zq_aa, zq_ab, zq_ac, zq_ad, zq_ae, zq_af, zq_ag, ↓zq_ah, ↓zq_ai, ↓zq_aj, zq_ak, ↓zq_al, ↓zq_am, e_b1, e_b2, x_o1, x_o2]
  rw [r_ent (show e_rok 31 [170, f0, G] = true from bx_r (M := B) rfl (by decide +kernel))]
  show e_tv E_C (E_V 31) e_t31_0 [170, f0, G] B = _
  unfold e_t31_0
  simp [zq_a, zq_b, zq_c, zq_d, zq_e, zq_f, zq_g, zq_h, zq_i, zq_j, zq_k, zq_l, zq_m, zq_n, zq_o, zq_p, zq_q, zq_r, zq_s, zq_t, zq_u, zq_v, zq_w, zq_x, zq_y, zq_z, zq_A, zq_B, zq_C, zq_D, zq_E, zq_F, zq_G, zq_H, zq_I, zq_J, zq_K, zq_L, ↓zq_M, ↓zq_N, ↓zq_O, ↓zq_P, ↓zq_Q, ↓zq_R, zq_S, zq_T, zq_U, zq_V, zq_W, zq_X, zq_Y, zq_Z, zq_0, zq_1, zq_2, zq_3, zq_4, zq_5, ↓zq_6, ↓zq_7, ↓zq_8, ↓zq_9, ↓zq_aa, zq_ab, zq_ac, zq_ad, zq_ae, zq_af, zq_ag, ↓zq_ah, ↓zq_ai, ↓zq_aj, zq_ak, ↓zq_al, ↓zq_am, e_b1, e_b2, x_o1, x_o2, bx_F0, bx_G9, h0, q1, q1n, q2, q2n, hl, j62]
/-- all that is known of a PART spread out, and of its FAULTS as the reference gathers them -/
def ft_H (M N : EM) (g : Int → Int) (X : Nat → Int) (L : Nat) (C D : Nat → Int) : Prop := g 1198 ≤ 40 ∧ hd_D M 0 g ∧ h_C M 0 g ∧ bx_XL M g X L ∧ ft_ij g X L ∧ bx_SP g M N X L ∧ bx_ND g (hd_SH g) (hd_WM g) (hd_DI g) X L N ∧ (∀ id, id < 162 → N id = M id) ∧ (∀ l k, l < L → k < bx_nc g (X l) → C (bx_oc g X l + k) = bx_ce g (X l) k) ∧ ∀ l (y : Nat), l < L → g (28 * X l) ≠ 0 → y < (g (28 * X l + 19)).toNat → ga_D g (X l) y ≠ 0 → D (ga_od g X l + gd_n (ga_D g (X l)) y) = 8 * X l + (y : Int)
/-- the bench between two FAULTS -/
def ft_I (g : Int → Int) (X : Nat → Int) (L : Nat) (N B : EM) : Prop := bx_RD g (hd_SH g) (hd_WM g) (hd_DI g) X L B ∧ ∀ id k, ¬ (177 ≤ id ∧ id ≤ 181) → ¬ (id = 170 ∧ k = 6) → ¬ (187 ≤ id ∧ id ≤ 190) → B id k = N id k
/-- the bench with FAULT f -/
def ft_U (g : Int → Int) (X : Nat → Int) (L : Nat) (C D : Nat → Int) (N B B' : EM) (f : Nat) (f0 G : Int) : Prop := bx_RD g (ft_SH g (ft_dc C (bx_oc g X L) f)) (hd_WM g) (ft_DI g (ft_br D (bx_oc g X L) f)) X L B' ∧ (∀ id k, ¬ (172 ≤ id ∧ id ≤ 179) → B' id k = B id k) ∧ ∀ B2, (∀ id k, id ≠ 180 → id ≠ 181 → ¬ (id = 170 ∧ k = 6) → ¬ (187 ≤ id ∧ id ≤ 190) → B2 id k = B' id k) → ∃ B3, E_C 31 [170, f0, G] B2 = some (0, B3) ∧ ft_I g X L N B3 ∧ ∀ id k, ¬ (172 ≤ id ∧ id ≤ 179) → B3 id k = B2 id k
section FTU
variable {M N B : EM} {g : Int → Int} {X : Nat → Int} {L : Nat} {C D : Nat → Int}
theorem ft_cpos (H : ft_H M N g X L C D) {l k : Nat} (hl : l < L) (hk : k < bx_nc g (X l)) : 0 ≤ bx_ce g (X l) k ∧ bx_oc g X l + k < bx_oc g X L := by
  obtain ⟨h40, -, -, ⟨-, ok, -, -⟩, -⟩ := H
  have m := bx_oc_m (g := g) (X := X) (L - (l + 1)) (l + 1)
  rw [show l + 1 + (L - (l + 1)) = L by omega] at m
  have m : bx_oc g X l + bx_nc g (X l) ≤ bx_oc g X L := m
  exact ⟨(bx_ok_ce h40 (ok l hl) hk).1, by omega⟩
theorem ft_Xpos (H : ft_H M N g X L C D) {l : Nat} (hl : l < L) : 0 ≤ X l := by
  obtain ⟨h40, -, -, ⟨-, ok, -, -⟩, -⟩ := H
  obtain ⟨z, z1, -⟩ := ok l hl
  omega
theorem ft_u0 (H : ft_H M N g X L C D) (I : ft_I g X L N B) {f0 G : Int} (hf0 : f0 = 0) : ∃ B', E_C 30 [170, f0] B = some (0, B') ∧ ft_U g X L C D N B B' 0 f0 G := by
  have n0 := H.2.2.2.2.2.1.1
  obtain ⟨hR, hfr⟩ := I
  have b0 : B 170 0 = (bx_oc g X L : Int) := (hfr _ _ (by decide) (by decide) (by decide)).trans n0
  have dc : ft_dc C (bx_oc g X L) 0 = -1 := if_neg (fun e => absurd e.1 (by decide))
  have br : ft_br D (bx_oc g X L) 0 = -1 := if_neg (Nat.not_lt_zero _)
  refine ⟨B, ft_30a b0 (by omega) (by omega), ?_, fun _ _ _ => rfl, fun B2 h2 => ?_⟩
  · rw [dc, br]
    refine ft_RD_cg hR (fun l k hl hk => ft_SH_n ?_) (fun l y hl hy => ft_DI_n ?_)
    · have := (ft_cpos H hl hk).1
      omega
    · have := ft_Xpos H hl
      omega
  · have f2 : ∀ id k, id ≠ 180 → id ≠ 181 → ¬ (id = 170 ∧ k = 6) → ¬ (187 ≤ id ∧ id ≤ 190) → B2 id k = B id k := h2
    refine ⟨B2, ft_31a ((f2 _ _ (by decide) (by decide) (by decide) (by decide)).trans b0) (by omega) (by omega), ⟨?_, fun id k i1 i2 i3 => (f2 _ _ (by omega) (by omega) i2 i3).trans (hfr id k i1 i2 i3)⟩, fun _ _ _ => rfl⟩
    obtain ⟨r1, r2, r3, r4⟩ := hR
    refine ⟨(f2 _ _ (by decide) (by decide) (by decide) (by decide)).trans r1, fun l hl => (f2 _ _ (by decide) (by decide) (by omega) (by decide)).trans (r2 l hl), fun l k hl hk => ⟨(f2 _ _ (by decide) (by decide) (by omega) (by decide)).trans (r3 l k hl hk).1, fun c hc => (f2 _ _ (by decide) (by decide) (by omega) (by decide)).trans ((r3 l k hl hk).2 c hc)⟩, fun l y hl hy => (f2 _ _ (by decide) (by decide) (by omega) (by decide)).trans (r4 l y hl hy)⟩
theorem ft_u1 (H : ft_H M N g X L C D) (I : ft_I g X L N B) {j : Nat} {f0 G : Int} (hf0 : f0 = ((j + 1 : Nat) : Int)) (hj : j < bx_oc g X L) : ∃ B', E_C 30 [170, f0] B = some (0, B') ∧ ft_U g X L C D N B B' (j + 1) f0 G := by
  have H0 := H
  obtain ⟨h40, hD, hC, ⟨⟨L1, L6⟩, ok, hoc, hog⟩, ij, hS, hN, e, HC, HD⟩ := H
  obtain ⟨hR, hfr⟩ := I
  have b0 : B 170 0 = (bx_oc g X L : Int) := (hfr _ _ (by decide) (by decide) (by decide)).trans hS.1
  obtain ⟨l0, k0, a1, a2, a3, -⟩ := bx_fc_at L j hj
  have hkn := hN.1 j hj
  obtain ⟨q, d1, d2, d3, d4, d5⟩ := hd_raw h40 hC ok hS j hj
  have v01 : N 176 j = 0 ∨ N 176 j = 1 := by
    rw [d5]
    exact (hd_cs_of hC (q : Int) (by omega) d2 d3).2
  obtain ⟨v, hv⟩ : ∃ v, N 176 j = v := ⟨_, rfl⟩
  rw [hv] at v01
  have b176 : B 176 j = v := (hfr _ _ (by omega) (by omega) (by omega)).trans hv
  have ce : bx_ce g (X l0) k0 = q := by
    rw [← (hN.2.2.2.2.1 l0 k0 a1 a2).1, ← a3]
    exact d1
  have dc : ft_dc C (bx_oc g X L) (j + 1) = q := by
    unfold ft_dc
    rw [if_pos ⟨by omega, by omega⟩, show j + 1 - 1 = j by omega, a3, HC l0 k0 a1 a2]
    exact ce
  have br : ft_br D (bx_oc g X L) (j + 1) = -1 := if_neg (by omega)
  have other : ∀ l k, l < L → k < bx_nc g (X l) → bx_oc g X l + k ≠ j → bx_ce g (X l) k ≠ q := fun l k hl hk hne h => by
    obtain ⟨u1, u2⟩ := ij l k l0 k0 hl hk a1 a2 (by rw [h, ce])
    subst u1
    subst u2
    exact hne a3.symm
  have same : ∀ l k, l < L → k < bx_nc g (X l) → bx_oc g X l + k = j → bx_ce g (X l) k = q := fun l k hl hk h => by
    rw [← (hN.2.2.2.2.1 l k hl hk).1, h]
    exact d1
  -- DEAD
  have e1 : ∀ id, id < 162 → e_up B 176 j (v + 1) id = M id := fun id hid => funext fun k => by
    rw [c_up_n (by omega), hfr _ _ (by omega) (by omega) (by omega)]
    exact congrFun (e id hid) k
  have kn1 : bx_kn g (ft_SH g q) (hd_WM g) (e_up B 176 j (v + 1)) j := by
    obtain ⟨q', c1, c2, c3, c4, c5, c6⟩ := hkn
    have eq : q' = q := by omega
    subst eq
    refine ⟨q', ?_, c2, c3, fun a ha => ?_, ?_, ?_⟩
    · rw [c_up_n (by omega), hfr _ _ (by omega) (by omega) (by omega)]
      exact c1
    · rw [c_up_n (by omega), hfr _ _ (by omega) (by omega) (by omega)]
      exact c4 a ha
    · unfold bx_sh
      rw [c_up_s, if_neg (by omega), ft_SH_e]
    · rw [c_up_n (by omega), hfr _ _ (by omega) (by omega) (by omega)]
      exact c6
  obtain ⟨B', k10, DC1, DC2⟩ := bx_10 (g := g) (SH := ft_SH g q) (WM := hd_WM g) (M := e_up B 176 j (v + 1)) (j := j) (j0 := (j : Int)) rfl (by omega) h40 (fun q hq h0 => bx_d0_cg e1 ((hD q hq).1 h0)) kn1
  have e174 : e_up B 176 j (v + 1) 174 j = q := by
    rw [c_up_n (by omega), hfr _ _ (by omega) (by omega) (by omega)]
    exact d1
  rw [e174] at DC1
  have fB' : ∀ id k, ¬ (176 ≤ id ∧ id ≤ 179) → B' id k = B id k := fun id k h => by
    rw [DC2 id k (by omega) (by omega), c_up_n (by omega)]
  have f179 : ∀ c jj : Nat, jj < 40 → jj ≠ j → B' 179 (40 * c + jj) = B 179 (40 * c + jj) := fun c jj h1 h2 => by
    rw [DC2 _ _ (by omega) (by omega), c_up_n (by omega)]
  have b'176 : B' 176 j = v + 1 := by
    rw [DC2 _ _ (by omega) (by omega), c_up_s]
  have wj : e_w (f0 - 1) = (j : Int) := (a_w_id (by omega) (by omega)).trans (by omega)
  have k146 : E_C 146 [176, (j : Int)] B = some (v, B) := (w_atN (a := 176) (n := 40) (by decide +kernel) (j := j) rfl (by omega) B).trans (by rw [← b176]; rfl)
  have k147 : E_C 147 [176, (j : Int), v + 1] B = some (0, e_up B 176 j (v + 1)) := w_layN (a := 176) (n := 40) (by decide +kernel) (j := j) rfl (by omega) _ B
  have wv : e_w (v + 1) = v + 1 := a_w_id (by omega) (by omega)
  obtain ⟨r1, r2, r3, r4⟩ := hR
  refine ⟨B', ft_30b b0 (by omega) (by omega) wj k146 wv k147 k10, ?_, fun id k h => fB' id k (by omega), fun B2 f2 => ?_⟩
  · rw [dc, br]
    refine ⟨(fB' _ _ (by decide)).trans r1, fun l hl => (fB' _ _ (by decide)).trans (r2 l hl), fun l k hl hk => ⟨(fB' _ _ (by omega)).trans (r3 l k hl hk).1, fun c hc => ?_⟩, fun l y hl hy => ?_⟩
    · by_cases h : bx_oc g X l + k = j
      · rw [h, DC1 c hc, same l k hl hk h]
      · have lt := (ft_cpos H0 hl hk).2
        rw [f179 c _ (by omega) h, (r3 l k hl hk).2 c hc]
        unfold cu_v
        rw [ft_SH_n (other l k hl hk h)]
    · rw [fB' _ _ (by omega), r4 l y hl hy]
      have := ft_Xpos H0 hl
      rw [ft_DI_n (by omega)]
  · have b2 : B2 176 j = v + 1 := (f2 _ _ (by omega) (by omega) (by omega) (by omega)).trans b'176
    have f4 : ∀ id k, ¬ (177 ≤ id ∧ id ≤ 181) → ¬ (id = 170 ∧ k = 6) → ¬ (187 ≤ id ∧ id ≤ 190) → e_up B2 176 j v id k = N id k := fun id k i1 i2 i3 => by
      by_cases h : id = 176 ∧ k = j
      · rw [h.1, h.2, c_up_s, hv]
      · rw [c_up_n h, f2 _ _ (by omega) (by omega) i2 i3, DC2 _ _ (by omega) (by omega), c_up_n h]
        exact hfr id k i1 i2 i3
    have e4 : ∀ id, id < 162 → e_up B2 176 j v id = M id := fun id hid => funext fun k => by
      rw [f4 _ _ (by omega) (by omega) (by omega)]
      exact congrFun (e id hid) k
    obtain ⟨B3, k10', DC1', DC2'⟩ := bx_10 (g := g) (SH := hd_SH g) (WM := hd_WM g) (M := e_up B2 176 j v) (j := j) (j0 := (j : Int)) rfl (by omega) h40 (fun q hq h0 => bx_d0_cg e4 ((hD q hq).1 h0)) (bx_kn_cg hkn (fun id k h1 h2 => f4 id k (by omega) (by omega) (by omega)))
    rw [show e_up B2 176 j v 174 j = q from (f4 _ _ (by omega) (by omega) (by omega)).trans d1] at DC1'
    have fB3 : ∀ id k, ¬ (176 ≤ id ∧ id ≤ 179) → B3 id k = B2 id k := fun id k h => by
      rw [DC2' id k (by omega) (by omega), c_up_n (by omega)]
    have k146' : E_C 146 [176, (j : Int)] B2 = some (v + 1, B2) := (w_atN (a := 176) (n := 40) (by decide +kernel) (j := j) rfl (by omega) B2).trans (by rw [← b2]; rfl)
    have k147' : E_C 147 [176, (j : Int), v] B2 = some (0, e_up B2 176 j v) := w_layN (a := 176) (n := 40) (by decide +kernel) (j := j) rfl (by omega) _ B2
    have wv' : e_w (v + 1 - 1) = v := (a_w_id (by omega) (by omega)).trans (by omega)
    have g3 : ∀ id k, ¬ (177 ≤ id ∧ id ≤ 181) → ¬ (id = 170 ∧ k = 6) → ¬ (187 ≤ id ∧ id ≤ 190) → B3 id k = N id k := fun id k i1 i2 i3 => (DC2' id k (by omega) (by omega)).trans (f4 id k i1 i2 i3)
    refine ⟨B3, ft_31b ((f2 _ _ (by decide) (by decide) (by decide) (by decide)).trans ((fB' _ _ (by decide)).trans b0)) (by omega) (by omega) wj k146' wv' k147' k10', ⟨?_, g3⟩, fun id k h => fB3 id k (by omega)⟩
    refine ⟨(g3 _ _ (by decide) (by decide) (by decide)).trans hN.2.2.1, fun l hl => (g3 _ _ (by decide) (by omega) (by decide)).trans (hN.2.2.2.1 l hl), fun l k hl hk => ⟨(g3 _ _ (by decide) (by omega) (by decide)).trans (hN.2.2.2.2.1 l k hl hk).2, fun c hc => ?_⟩, fun l y hl hy => (g3 _ _ (by decide) (by omega) (by decide)).trans (hN.2.2.2.2.2 l y hl hy)⟩
    by_cases h : bx_oc g X l + k = j
    · rw [h, DC1' c hc, same l k hl hk h]
    · have lt := (ft_cpos H0 hl hk).2
      rw [DC2' _ _ (by omega) (by omega), c_up_n (by omega), f2 _ _ (by decide) (by decide) (by omega) (by decide), f179 c _ (by omega) h]
      exact (r3 l k hl hk).2 c hc
theorem ft_u2 (H : ft_H M N g X L C D) (I : ft_I g X L N B) {w : Nat} {f0 : Int} (hf0 : f0 = ((bx_oc g X L + 1 + w : Nat) : Int)) (hw : w < ga_od g X L) {z1 z2 : Int} (hz1 : e_w (f0 - (bx_oc g X L : Int)) = z1) (hz2 : e_w (z1 - 1) = z2) : ∃ G, E_C 32 [170, z2] B = some (G, B) ∧ ∃ B', E_C 30 [170, f0] B = some (0, B') ∧ ft_U g X L C D N B B' (bx_oc g X L + 1 + w) f0 G := by
  have H0 := H
  obtain ⟨h40, hD, hC, ⟨⟨L1, L6⟩, ok, hoc, hog⟩, ij, hS, hN, e, HC, HD⟩ := H
  obtain ⟨hR, hfr⟩ := I
  have b0 : B 170 0 = (bx_oc g X L : Int) := (hfr _ _ (by decide) (by decide) (by decide)).trans hS.1
  have b4 : B 170 4 = (bx_og g X L : Int) := (hfr _ _ (by decide) (by decide) (by decide)).trans hS.2.1
  have odl := ga_od_le (g := g) (X := X) L
  have z2w : z2 = (w : Int) := by
    have y1 : z1 = (w : Int) + 1 := by rw [← hz1, a_w_id (by omega) (by omega)]; omega
    rw [← hz2, a_w_id (by omega) (by omega)]
    omega
  have b172 : ∀ y, B 172 y = N 172 y := fun y => hfr _ _ (by omega) (by omega) (by omega)
  obtain ⟨G, kG, hG⟩ := dg_32 (w := z2) b4 hog
  have gB : gd_n (fun y => B 172 y) (bx_og g X L) = ga_od g X L := by
    rw [gd_n_cg (D := fun y => N 172 y) (D' := fun y => B 172 y) _ (fun y _ => by
      show B 172 y ≠ 0 ↔ N 172 y ≠ 0
      rw [b172])]
    exact dd_sum hS ok L (Nat.le_refl _)
  rw [gB] at hG
  obtain ⟨k, hk, hk1, hk2, hk3⟩ := hG.resolve_right (fun h => by omega)
  refine ⟨G, kG, ?_⟩
  obtain ⟨l0, y0, a1, a2, a3⟩ := bx_og_at L k hk1
  have nk : N 172 k ≠ 0 := by rw [← b172]; exact hk2
  have di := hS.2.2.2.2.2.1
  have dk := di l0 y0 a1 a2
  rw [← a3] at dk
  have c0 : g (28 * X l0) ≠ 0 := fun h => nk (by rw [dk]; exact if_pos h)
  have dD : bx_di g (X l0) y0 = ga_D g (X l0) y0 := if_neg c0
  have eng : bx_ng g (X l0) = (g (28 * X l0 + 19)).toNat := if_neg c0
  have gk : gd_n (fun y => B 172 y) k = ga_od g X l0 + gd_n (ga_D g (X l0)) y0 := by
    rw [a3, gd_n_add]
    have s1 : gd_n (fun y => B 172 y) (bx_og g X l0) = ga_od g X l0 := by
      rw [gd_n_cg (D := fun y => N 172 y) (D' := fun y => B 172 y) _ (fun y _ => by
        show B 172 y ≠ 0 ↔ N 172 y ≠ 0
        rw [b172])]
      exact dd_sum hS ok l0 (by omega)
    rw [s1, gd_n_cg (D := ga_D g (X l0)) (D' := fun y => B 172 (bx_og g X l0 + y)) _ (fun y hy => by
      show B 172 (bx_og g X l0 + y) ≠ 0 ↔ ga_D g (X l0) y ≠ 0
      rw [b172, di l0 y a1 (by omega), show bx_di g (X l0) y = ga_D g (X l0) y from if_neg c0])]
  have wD : D w = 8 * X l0 + (y0 : Int) := by
    rw [show w = ga_od g X l0 + gd_n (ga_D g (X l0)) y0 by omega]
    exact HD l0 y0 a1 c0 (by omega) (by rw [← dD, ← dk]; exact nk)
  have dc : ft_dc C (bx_oc g X L) (bx_oc g X L + 1 + w) = -1 := if_neg (fun h => by omega)
  have br : ft_br D (bx_oc g X L) (bx_oc g X L + 1 + w) = 8 * X l0 + (y0 : Int) := by
    unfold ft_br
    rw [if_pos (by omega), show bx_oc g X L + 1 + w - 1 - bx_oc g X L = w by omega]
    exact wD
  have k147 : E_C 147 [172, G, 0] B = some (0, e_up B 172 k 0) := w_layN (a := 172) (n := 40) (by decide +kernel) (j := k) hk (by omega) _ B
  have h01 : N 172 k = 1 := (dd_01 hN L (Nat.le_refl _) k hk1).resolve_left nk
  obtain ⟨r1, r2, r3, r4⟩ := hR
  refine ⟨e_up B 172 k 0, ft_30c b0 (by omega) (by omega) hz1 hz2 kG k147, ?_, fun id k h => c_up_n (by omega), fun B2 f2 => ?_⟩
  · rw [dc, br]
    refine ⟨(c_up_n (by omega)).trans r1, fun l hl => (c_up_n (by omega)).trans (r2 l hl), fun l k hl hk => ⟨(c_up_n (by omega)).trans (r3 l k hl hk).1, fun c hc => ?_⟩, fun l y hl hy => ?_⟩
    · rw [c_up_n (by omega), (r3 l k hl hk).2 c hc]
      unfold cu_v
      have := (ft_cpos H0 hl hk).1
      rw [ft_SH_n (by omega)]
    · have y8 := (ft_X1 (ok l hl)).2
      have y08 := (ft_X1 (ok l0 a1)).2
      by_cases h : bx_og g X l + y = k
      · obtain ⟨u1, u2⟩ := bx_og_u hy a2 (h.trans a3)
        subst u1
        subst u2
        rw [h, c_up_s, if_neg c0, ft_DI_e]
      · rw [c_up_n (by omega), r4 l y hl hy]
        by_cases c : g (28 * X l) = 0
        · rw [if_pos c, if_pos c]
        · rw [if_neg c, if_neg c, ft_DI_n]
          intro h2
          have hX : X l = X l0 := by omega
          have hl2 := ft_Xi ok ij hl a1 hX
          subst hl2
          have : y = y0 := by omega
          subst this
          exact h a3.symm
  · have k147' : E_C 147 [172, G, 1] B2 = some (0, e_up B2 172 k 1) := w_layN (a := 172) (n := 40) (by decide +kernel) (j := k) hk (by omega) _ B2
    have g3 : ∀ id j, ¬ (id = 180) → ¬ (id = 181) → ¬ (id = 170 ∧ j = 6) → ¬ (187 ≤ id ∧ id ≤ 190) → e_up B2 172 k 1 id j = B id j := fun id j i1 i2 i3 i4 => by
      by_cases h : id = 172 ∧ j = k
      · rw [h.1, h.2, c_up_s, b172, h01]
      · rw [c_up_n h, f2 _ _ i1 i2 i3 i4, c_up_n h]
    refine ⟨e_up B2 172 k 1, ft_31c ((f2 _ _ (by decide) (by decide) (by decide) (by decide)).trans ((c_up_n (by omega)).trans b0)) (by omega) (by omega) k147', ⟨⟨(g3 _ _ (by decide) (by decide) (by decide) (by decide)).trans r1, fun l hl => (g3 _ _ (by decide) (by decide) (by omega) (by decide)).trans (r2 l hl), fun l k hl hk => ⟨(g3 _ _ (by decide) (by decide) (by omega) (by decide)).trans (r3 l k hl hk).1, fun c hc => (g3 _ _ (by decide) (by decide) (by omega) (by decide)).trans ((r3 l k hl hk).2 c hc)⟩, fun l y hl hy => (g3 _ _ (by decide) (by decide) (by omega) (by decide)).trans (r4 l y hl hy)⟩, fun id j i1 i2 i3 => (g3 _ _ (by omega) (by omega) i2 i3).trans (hfr id j i1 i2 i3)⟩, fun id j h => c_up_n (by omega)⟩
/-- every FAULT -/
theorem ft_u (H : ft_H M N g X L C D) (I : ft_I g X L N B) {f : Nat} {f0 : Int} (hf0 : f0 = f) (hf : f < 1 + bx_oc g X L + ga_od g X L) {z1 z2 : Int} (hz1 : e_w (f0 - (bx_oc g X L : Int)) = z1) (hz2 : e_w (z1 - 1) = z2) : ∃ G, E_C 32 [170, z2] B = some (G, B) ∧ ∃ B', E_C 30 [170, f0] B = some (0, B') ∧ ft_U g X L C D N B B' f f0 G := by
  rcases Nat.lt_or_ge (bx_oc g X L) f with c | c
  · obtain ⟨w, hw⟩ : ∃ w, f = bx_oc g X L + 1 + w := ⟨f - (bx_oc g X L + 1), by omega⟩
    subst hw
    exact ft_u2 H I hf0 (by omega) hz1 hz2
  · have b4 : B 170 4 = (bx_og g X L : Int) := (I.2 _ _ (by decide) (by decide) (by decide)).trans H.2.2.2.2.2.1.2.1
    have hog := H.2.2.2.1.2.2.2
    obtain ⟨G, kG, -⟩ := dg_32 (w := z2) b4 hog
    refine ⟨G, kG, ?_⟩
    rcases Nat.eq_zero_or_pos f with z | z
    · subst z
      exact ft_u0 H I hf0
    · obtain ⟨j, hj⟩ : ∃ j, f = j + 1 := ⟨f - 1, by omega⟩
      subst hj
      exact ft_u1 H I hf0 (by omega)
end FTU
