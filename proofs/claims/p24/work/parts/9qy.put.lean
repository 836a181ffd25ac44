section
/-! SHELVES: put -/
theorem h_88 {h v x1 x2 z : Int} (hh : h ∈ a_SH) {M : EM} (b24 : e_b1 24 v = some x1) (b25 : e_b1 25 v = some x2) (hz : z = if M h.toNat 4 = 0 then x1 else if M h.toNat 4 = 1 then x2 else v) : E_C 88 [h, v] M = some (z, M) := by
  obtain ⟨s1, -⟩ := w_sh hh
  obtain ⟨-, -, f4, -⟩ := h_sf hh M
  rw [r_ent (show e_rok 88 [h, v] = true from decide_eq_true s1)]
  show e_tv E_C (E_V 88) e_t88_0 [h, v] M = _
  unfold e_t88_0
  generalize M h.toNat 4 = s at f4 hz
  have b46 : ∀ a, e_b1 46 a = some (if a = 0 then 1 else 0) := fun _ => rfl
  have b47 : ∀ a, e_b1 47 a = some (if a ≠ 0 then 1 else 0) := fun _ => rfl
  by_cases q : s = 0
  · rw [if_pos q] at hz
    subst hz
    simp [zq_a, zq_b, zq_c, zq_d, zq_e, zq_f, zq_g, zq_h, zq_i, zq_j, zq_k, zq_l, zq_m, zq_n, zq_o, zq_p, zq_q, zq_r, zq_s, zq_t, zq_u, zq_v, zq_w, zq_x, zq_y, zq_z, zq_A, zq_B, zq_C, zq_D, zq_E, zq_F, zq_G, zq_H, zq_I, zq_J, zq_K, zq_L, ↓zq_M, ↓zq_N, ↓zq_O, ↓zq_P, ↓zq_Q, ↓zq_R, zq_S, zq_T, zq_U, zq_V, zq_W, zq_X, zq_Y, zq_Z, zq_0, zq_1, zq_2, zq_3, zq_4, zq_5, ↓zq_6, ↓zq_7, ↓zq_8, ↓zq_9, ↓zq_aa, zq_ab, zq_ac, zq_ad, zq_ae, zq_af, zq_ag, ↓zq_ah, ↓zq_ai, ↓zq_aj, zq_ak, ↓zq_al, ↓zq_am, b46, b47, b24, b25, e_b2, x_o1, x_o2, f4, q]
  · rw [if_neg q] at hz
    by_cases q1 : s = 1
    · rw [if_pos q1] at hz
      subst hz
      simp [zq_a, zq_b, zq_c, zq_d, zq_e, zq_f, zq_g, zq_h, zq_i, zq_j, zq_k, zq_l, zq_m, zq_n, zq_o, zq_p, zq_q, zq_r, zq_s, zq_t, zq_u, zq_v, zq_w, zq_x, zq_y, zq_z, zq_A, zq_B, zq_C, zq_D, zq_E, zq_F, zq_G, zq_H, zq_I, zq_J, zq_K, zq_L, ↓zq_M, ↓zq_N, ↓zq_O, ↓zq_P, ↓zq_Q, ↓zq_R, zq_S, zq_T, zq_U, zq_V, zq_W, zq_X, zq_Y, zq_Z, zq_0, zq_1, zq_2, zq_3, zq_4, zq_5, ↓zq_6, ↓zq_7, ↓zq_8, ↓zq_9, ↓zq_aa, zq_ab, zq_ac, zq_ad, zq_ae, zq_af, zq_ag, ↓zq_ah, ↓zq_ai, ↓zq_aj, zq_ak, ↓zq_al, ↓zq_am, b46, b47, b24, b25, e_b2, x_o1, x_o2, f4, q1]
    · rw [if_neg q1] at hz
      subst hz
      simp [zq_a, zq_b, zq_c, zq_d, zq_e, zq_f, zq_g, zq_h, zq_i, zq_j, zq_k, zq_l, zq_m, zq_n, zq_o, zq_p, zq_q, zq_r, zq_s, zq_t, zq_u, zq_v, zq_w, zq_x, zq_y, zq_z, zq_A, zq_B, zq_C, zq_D, zq_E, zq_F, zq_G, zq_H, zq_I, zq_J, zq_K, zq_L, ↓zq_M, ↓zq_N, ↓zq_O, ↓zq_P, ↓zq_Q, ↓zq_R, zq_S, zq_T, zq_U, zq_V, zq_W, zq_X, zq_Y, zq_Z, zq_0, zq_1, zq_2, zq_3, zq_4, zq_5, ↓zq_6, ↓zq_7, ↓zq_8, ↓zq_9, ↓zq_aa, zq_ab, zq_ac, zq_ad, zq_ae, zq_af, zq_ag, ↓zq_ah, ↓zq_ai, ↓zq_aj, zq_ak, ↓zq_al, ↓zq_am, b46, b47, b24, b25, e_b2, x_o1, x_o2, f4, q, q1]
theorem h_141n {d i v x z : Int} {M : EM} (c0 : E_C 154 [8, d] M = some (x, M)) (c1 : E_C 156 [x, -1] M = some (z, M)) (hz : z ≠ 0) : E_C 141 [8, d, i, v] M = some (z, M) := by
  have s0 : E_C 141 [8, d, i, v] M = e_tv E_C (E_V 141) e_t141_0 [8, d, i, v, 0, 0] M := r_ent (u := 141) (as := [8, d, i, v]) (M := M) (decide_eq_true c_this)
  rw [s0]
  unfold e_t141_0
  simp [zq_a, zq_b, zq_c, zq_d, zq_e, zq_f, zq_g, zq_h, zq_i, zq_j, zq_k, zq_l, zq_m, zq_n, zq_o, zq_p, zq_q, zq_r, zq_s, zq_t, zq_u, zq_v, zq_w, zq_x, zq_y, zq_z, zq_A, zq_B, zq_C, zq_D, zq_E, zq_F, zq_G, zq_H, zq_I, zq_J, zq_K, zq_L, ↓zq_M, ↓zq_N, ↓zq_O, ↓zq_P, ↓zq_Q, ↓zq_R, zq_S, zq_T, zq_U, zq_V, zq_W, zq_X, zq_Y, zq_Z, zq_0, zq_1, zq_2, zq_3, zq_4, zq_5, ↓zq_6, ↓zq_7, ↓zq_8, ↓zq_9, ↓zq_aa, zq_ab, zq_ac, zq_ad, zq_ae, zq_af, zq_ag, ↓zq_ah, ↓zq_ai, ↓zq_aj, zq_ak, ↓zq_al, ↓zq_am, e_b1, e_b2, x_o1, x_o2, c0, c1, hz]
theorem h_141m {d i v h n : Int} {M : EM} (hh : h ∈ a_SH) (c0 : E_C 154 [8, d] M = some (h, M)) (c1 : E_C 156 [h, -1] M = some (0, M)) (hn : M h.toNat 5 = n) (q : i < 0 ∨ n ≤ i) : E_C 141 [8, d, i, v] M = some (-13, M) := by
  have s0 : E_C 141 [8, d, i, v] M = e_tv E_C (E_V 141) e_t141_0 [8, d, i, v, 0, 0] M := r_ent (u := 141) (as := [8, d, i, v]) (M := M) (decide_eq_true c_this)
  obtain ⟨-, -, -, f5⟩ := h_sf hh M
  rw [hn] at f5
  have hne : h ≠ -1 := by
    have := w_sh hh
    omega
  rw [s0]
  unfold e_t141_0
  rcases x_le 0 i with ⟨q1, q1_n⟩ | ⟨q1, q1_n⟩
  · have q2 : n ≤ i := by omega
    simp [zq_a, zq_b, zq_c, zq_d, zq_e, zq_f, zq_g, zq_h, zq_i, zq_j, zq_k, zq_l, zq_m, zq_n, zq_o, zq_p, zq_q, zq_r, zq_s, zq_t, zq_u, zq_v, zq_w, zq_x, zq_y, zq_z, zq_A, zq_B, zq_C, zq_D, zq_E, zq_F, zq_G, zq_H, zq_I, zq_J, zq_K, zq_L, ↓zq_M, ↓zq_N, ↓zq_O, ↓zq_P, ↓zq_Q, ↓zq_R, zq_S, zq_T, zq_U, zq_V, zq_W, zq_X, zq_Y, zq_Z, zq_0, zq_1, zq_2, zq_3, zq_4, zq_5, ↓zq_6, ↓zq_7, ↓zq_8, ↓zq_9, ↓zq_aa, zq_ab, zq_ac, zq_ad, zq_ae, zq_af, zq_ag, ↓zq_ah, ↓zq_ai, ↓zq_aj, zq_ak, ↓zq_al, ↓zq_am, e_b1, e_b2, x_o1, x_o2, c0, c1, hne, f5, q1, q1_n, q2]
  · simp [zq_a, zq_b, zq_c, zq_d, zq_e, zq_f, zq_g, zq_h, zq_i, zq_j, zq_k, zq_l, zq_m, zq_n, zq_o, zq_p, zq_q, zq_r, zq_s, zq_t, zq_u, zq_v, zq_w, zq_x, zq_y, zq_z, zq_A, zq_B, zq_C, zq_D, zq_E, zq_F, zq_G, zq_H, zq_I, zq_J, zq_K, zq_L, ↓zq_M, ↓zq_N, ↓zq_O, ↓zq_P, ↓zq_Q, ↓zq_R, zq_S, zq_T, zq_U, zq_V, zq_W, zq_X, zq_Y, zq_Z, zq_0, zq_1, zq_2, zq_3, zq_4, zq_5, ↓zq_6, ↓zq_7, ↓zq_8, ↓zq_9, ↓zq_aa, zq_ab, zq_ac, zq_ad, zq_ae, zq_af, zq_ag, ↓zq_ah, ↓zq_ai, ↓zq_aj, zq_ak, ↓zq_al, ↓zq_am, e_b1, e_b2, x_o1, x_o2, c0, c1, hne, f5, q1, q1_n]
theorem h_141y {d i v h n x : Int} {M M1 : EM} (hh : h ∈ a_SH) (c0 : E_C 154 [8, d] M = some (h, M)) (c1 : E_C 156 [h, -1] M = some (0, M)) (hn : M h.toNat 5 = n) (q0 : 0 ≤ i) (q1 : i < n) (k : E_C 88 [h, v] M = some (x, M)) (l : E_C 147 [h + 1, i, x] M = some (0, M1)) : E_C 141 [8, d, i, v] M = some (0, M1) := by
  have s0 : E_C 141 [8, d, i, v] M = e_tv E_C (E_V 141) e_t141_0 [8, d, i, v, 0, 0] M := r_ent (u := 141) (as := [8, d, i, v]) (M := M) (decide_eq_true c_this)
  obtain ⟨-, -, -, f5⟩ := h_sf hh M
  rw [hn] at f5
  obtain ⟨s1, s2, s3, s4, s5, s6, s7⟩ := w_sh hh
  have g6 : e_gf 518 [h] M = some (h + 1) := (c_gr s1 (by decide +kernel)).trans (congrArg some s5)
  have hne : h ≠ -1 := by omega
  have q0' : ¬ i < 0 := by omega
  have q1' : ¬ n ≤ i := by omega
  rw [s0]
  unfold e_t141_0
  simp [zq_a, zq_b, zq_c, zq_d, zq_e, zq_f, zq_g, zq_h, zq_i, zq_j, zq_k, zq_l, zq_m, zq_n, zq_o, zq_p, zq_q, zq_r, zq_s, zq_t, zq_u, zq_v, zq_w, zq_x, zq_y, zq_z, zq_A, zq_B, zq_C, zq_D, zq_E, zq_F, zq_G, zq_H, zq_I, zq_J, zq_K, zq_L, ↓zq_M, ↓zq_N, ↓zq_O, ↓zq_P, ↓zq_Q, ↓zq_R, zq_S, zq_T, zq_U, zq_V, zq_W, zq_X, zq_Y, zq_Z, zq_0, zq_1, zq_2, zq_3, zq_4, zq_5, ↓zq_6, ↓zq_7, ↓zq_8, ↓zq_9, ↓zq_aa, zq_ab, zq_ac, zq_ad, zq_ae, zq_af, zq_ag, ↓zq_ah, ↓zq_ai, ↓zq_aj, zq_ak, ↓zq_al, ↓zq_am, e_b1, e_b2, x_o1, x_o2, c0, c1, hne, f5, q0, q0', q1, q1', g6, k, l]
theorem h_260n {d i v z : Int} {M : EM} (c1 : E_C 189 [192, d, -1] M = some (z, M)) (hz : z ≠ 0) : E_C 260 [192, d, i, v] M = some (z, M) := by
  rw [r_ent (show e_rok 260 [192, d, i, v] = true from decide_eq_true r_ref)]
  show e_tv E_C (E_V 260) e_t260_0 [192, d, i, v, 0] M = _
  unfold e_t260_0
  simp [zq_a, zq_b, zq_c, zq_d, zq_e, zq_f, zq_g, zq_h, zq_i, zq_j, zq_k, zq_l, zq_m, zq_n, zq_o, zq_p, zq_q, zq_r, zq_s, zq_t, zq_u, zq_v, zq_w, zq_x, zq_y, zq_z, zq_A, zq_B, zq_C, zq_D, zq_E, zq_F, zq_G, zq_H, zq_I, zq_J, zq_K, zq_L, ↓zq_M, ↓zq_N, ↓zq_O, ↓zq_P, ↓zq_Q, ↓zq_R, zq_S, zq_T, zq_U, zq_V, zq_W, zq_X, zq_Y, zq_Z, zq_0, zq_1, zq_2, zq_3, zq_4, zq_5, ↓zq_6, ↓zq_7, ↓zq_8, ↓zq_9, ↓zq_aa, zq_ab, zq_ac, zq_ad, zq_ae, zq_af, zq_ag, ↓zq_ah, ↓zq_ai, ↓zq_aj, zq_ak, ↓zq_al, ↓zq_am, e_b1, e_b2, x_o1, x_o2, c1, hz]
theorem h_260m {d i v n n1 : Int} {M : EM} (c1 : E_C 189 [192, d, -1] M = some (0, M)) (l3 : e_op 60 [197, d] M = some n) (w : e_w (n - 1) = n1) (k : E_C 168 [i, 0, n1] M = some (0, M)) : E_C 260 [192, d, i, v] M = some (-13, M) := by
  rw [r_ent (show e_rok 260 [192, d, i, v] = true from decide_eq_true r_ref)]
  show e_tv E_C (E_V 260) e_t260_0 [192, d, i, v, 0] M = _
  unfold e_t260_0
  simp [zq_a, zq_b, zq_c, zq_d, zq_e, zq_f, zq_g, zq_h, zq_i, zq_j, zq_k, zq_l, zq_m, zq_n, zq_o, zq_p, zq_q, zq_r, zq_s, zq_t, zq_u, zq_v, zq_w, zq_x, zq_y, zq_z, zq_A, zq_B, zq_C, zq_D, zq_E, zq_F, zq_G, zq_H, zq_I, zq_J, zq_K, zq_L, ↓zq_M, ↓zq_N, ↓zq_O, ↓zq_P, ↓zq_Q, ↓zq_R, zq_S, zq_T, zq_U, zq_V, zq_W, zq_X, zq_Y, zq_Z, zq_0, zq_1, zq_2, zq_3, zq_4, zq_5, ↓zq_6, ↓zq_7, ↓zq_8, ↓zq_9, ↓zq_aa, zq_ab, zq_ac, zq_ad, zq_ae, zq_af, zq_ag, ↓zq_ah, ↓zq_ai, ↓zq_aj, zq_ak, ↓zq_al, ↓zq_am, e_b1, e_b2, x_o1, x_o2, r_O4, c1, l3, w, k]
theorem h_260y {d i v n n1 s x x1 x2 b ia : Int} {na : Nat} {M : EM} (c1 : E_C 189 [192, d, -1] M = some (0, M)) (l3 : e_op 60 [197, d] M = some n) (w : e_w (n - 1) = n1) (k : E_C 168 [i, 0, n1] M = some (1, M)) (l2 : e_op 60 [196, d] M = some s) (b24 : e_b1 24 v = some x1) (b25 : e_b1 25 v = some x2) (hx : x = if s = 0 then x1 else if s = 1 then x2 else v) (w1 : e_w (120 * d) = b) (w2 : e_w (b + i) = ia) (st : ∀ v M, e_st 100 [198, ia, v] M = some (e_up M 198 na v)) : E_C 260 [192, d, i, v] M = some (0, e_up M 198 na x) := by
  have a1 : ∀ a, e_b1 1 a = some a := fun _ => rfl
  have b22 : ∀ a, e_b1 22 a = some a := fun _ => rfl
  have b46 : ∀ a, e_b1 46 a = some (if a = 0 then 1 else 0) := fun _ => rfl
  have b47 : ∀ a, e_b1 47 a = some (if a ≠ 0 then 1 else 0) := fun _ => rfl
  rw [r_ent (show e_rok 260 [192, d, i, v] = true from decide_eq_true r_ref)]
  show e_tv E_C (E_V 260) e_t260_0 [192, d, i, v, 0] M = _
  unfold e_t260_0
  by_cases q : s = 0
  · rw [if_pos q] at hx
    subst hx
    simp [zq_a, zq_b, zq_c, zq_d, zq_e, zq_f, zq_g, zq_h, zq_i, zq_j, zq_k, zq_l, zq_m, zq_n, zq_o, zq_p, zq_q, zq_r, zq_s, zq_t, zq_u, zq_v, zq_w, zq_x, zq_y, zq_z, zq_A, zq_B, zq_C, zq_D, zq_E, zq_F, zq_G, zq_H, zq_I, zq_J, zq_K, zq_L, ↓zq_M, ↓zq_N, ↓zq_O, ↓zq_P, ↓zq_Q, ↓zq_R, zq_S, zq_T, zq_U, zq_V, zq_W, zq_X, zq_Y, zq_Z, zq_0, zq_1, zq_2, zq_3, zq_4, zq_5, ↓zq_6, ↓zq_7, ↓zq_8, ↓zq_9, ↓zq_aa, zq_ab, zq_ac, zq_ad, zq_ae, zq_af, zq_ag, ↓zq_ah, ↓zq_ai, ↓zq_aj, zq_ak, ↓zq_al, ↓zq_am, a1, b22, b46, b47, b24, b25, e_b2, x_o1, x_o2, r_O3, r_O4, r_O5, c1, l3, w, k, l2, q, w1, w2, st]
  · rw [if_neg q] at hx
    by_cases q1 : s = 1
    · rw [if_pos q1] at hx
      subst hx
      simp [zq_a, zq_b, zq_c, zq_d, zq_e, zq_f, zq_g, zq_h, zq_i, zq_j, zq_k, zq_l, zq_m, zq_n, zq_o, zq_p, zq_q, zq_r, zq_s, zq_t, zq_u, zq_v, zq_w, zq_x, zq_y, zq_z, zq_A, zq_B, zq_C, zq_D, zq_E, zq_F, zq_G, zq_H, zq_I, zq_J, zq_K, zq_L, ↓zq_M, ↓zq_N, ↓zq_O, ↓zq_P, ↓zq_Q, ↓zq_R, zq_S, zq_T, zq_U, zq_V, zq_W, zq_X, zq_Y, zq_Z, zq_0, zq_1, zq_2, zq_3, zq_4, zq_5, ↓zq_6, ↓zq_7, ↓zq_8, ↓zq_9, ↓zq_aa, zq_ab, zq_ac, zq_ad, zq_ae, zq_af, zq_ag, ↓zq_ah, ↓zq_ai, ↓zq_aj, zq_ak, ↓zq_al, ↓zq_am, a1, b22, b46, b47, b24, b25, e_b2, x_o1, x_o2, r_O3, r_O4, r_O5, c1, l3, w, k, l2, q1, w1, w2, st]
    · rw [if_neg q1] at hx
      subst hx
      simp [zq_a, zq_b, zq_c, zq_d, zq_e, zq_f, zq_g, zq_h, zq_i, zq_j, zq_k, zq_l, zq_m, zq_n, zq_o, zq_p, zq_q, zq_r, zq_s, zq_t, zq_u, zq_v, zq_w, zq_x, zq_y, zq_z, zq_A, zq_B, zq_C, zq_D, zq_E, zq_F, zq_G, zq_H, zq_I, zq_J, zq_K, zq_L, ↓zq_M, ↓zq_N, ↓zq_O, ↓zq_P, ↓zq_Q, ↓zq_R, zq_S, zq_T, zq_U, zq_V, zq_W, zq_X, zq_Y, zq_Z, zq_0, zq_1, zq_2, zq_3, zq_4, zq_5, ↓zq_6, ↓zq_7, ↓zq_8, ↓zq_9, ↓zq_aa, zq_ab, zq_ac, zq_ad, zq_ae, zq_af, zq_ag, ↓zq_ah, ↓zq_ai, ↓zq_aj, zq_ak, ↓zq_al, ↓zq_am, a1, b22, b46, b47, b24, b25, e_b2, x_o1, x_o2, r_O3, r_O4, r_O5, c1, l3, w, k, l2, q, q1, w1, w2, st]
theorem h_no2 {M : EM} {d w : Int} (h : h_no M d w = 0) : (0 ≤ d ∧ d < 8) ∧ M 195 d.toNat = 2 := by
  unfold h_no at h
  by_cases hd : 0 ≤ d ∧ d < 8
  · refine ⟨hd, ?_⟩
    rw [if_pos hd] at h
    by_cases c : M 195 d.toNat = 0
    · rw [if_pos c] at h; exact absurd h (by decide)
    · rw [if_neg c] at h
      by_cases c2 : M 195 d.toNat = 2 ∧ (w = -1 ∨ w = M 196 d.toNat)
      · exact c2.1
      · rw [if_neg c2] at h; exact absurd h (by decide)
  · rw [if_neg hd] at h; exact absurd h (by decide)
theorem h_put {d i v r1 r2 : Int} {M M1 M2 : EM} (hJ : r_J M) (hS : h_S M) (k1 : E_C 141 [8, d, i, v] M = some (r1, M1)) (k2 : E_C 260 [192, d, i, v] M1 = some (r2, M2)) : r1 = r2 ∧ h_S M2 := by
  by_cases q : h_no M d (-1) = 0
  · obtain ⟨hd, kept⟩ := h_no2 q
    obtain ⟨m, rfl⟩ : ∃ m : Nat, d = m := ⟨d.toNat, by omega⟩
    rw [Int.toNat_natCast] at kept
    have m8 : m < 8 := by omega
    have hh := (h_gr145 m8).2
    obtain ⟨c0, c1⟩ := h_ref (w := -1) hS hd
    rw [q, Int.toNat_natCast] at c1
    rw [Int.toNat_natCast] at c0
    have sz := hJ.2.1 m m8
    have hrow : M (146 + 2 * m) 4 = M 196 m ∧ M (146 + 2 * m) 5 = M 197 m := by
      rcases hS m m8 with ⟨a, -⟩ | ⟨a, -⟩ | ⟨a, -, -, e4, e5, -⟩
      · omega
      · omega
      · exact ⟨e4, e5⟩
    obtain ⟨n, hn⟩ : ∃ n, M 197 m = n := ⟨_, rfl⟩
    have hn5 : M (((146 + 2 * m : Nat) : Int)).toNat 5 = n := by rw [Int.toNat_natCast, hrow.2, hn]
    rw [hn] at sz
    have eno : ∀ N : EM, (∀ id j, 192 ≤ id → id ≠ 198 → N id j = M id j) → h_no N (m : Int) (-1) = 0 := fun N hN => by
      rw [← q]
      unfold h_no
      rw [hN 195 _ (by decide) (by decide), hN 196 _ (by decide) (by decide)]
    have w1 : e_w (n - 1) = n - 1 := a_w_id (by omega) (by omega)
    by_cases c : 0 ≤ i ∧ i < n
    · obtain ⟨x1, b24⟩ : ∃ x, e_b1 24 v = some x := ⟨_, rfl⟩
      obtain ⟨x2, b25⟩ : ∃ x, e_b1 25 v = some x := ⟨_, rfl⟩
      have e88 := h_88 (z := if M 196 m = 0 then x1 else if M 196 m = 1 then x2 else v) hh (M := M) b24 b25 (by rw [Int.toNat_natCast, hrow.1])
      obtain ⟨x, hx⟩ : ∃ x, x = if M 196 m = 0 then x1 else if M 196 m = 1 then x2 else v := ⟨_, rfl⟩
      rw [← hx] at e88
      obtain ⟨s1, s2, s3, s4, s5, s6, s7⟩ := w_sh hh
      obtain ⟨j, hj⟩ : ∃ j : Nat, i = j := ⟨i.toNat, by omega⟩
      have j120 : j < 120 := by
        clear w1
        omega
      have l := w_layN (a := ((146 + 2 * m : Nat) : Int) + 1) (i := i) (n := 120) ⟨s2, s3, s4⟩ hj j120 x M
      have e1 := Prod.mk.inj (Option.some.inj (k1.symm.trans (h_141y hh c0 c1 hn5 c.1 c.2 e88 l)))
      obtain ⟨e1, e2⟩ := e1
      rw [show (((146 + 2 * m : Nat) : Int) + 1).toNat = 147 + 2 * m by clear w1; omega] at e2
      subst e2
      have fr : ∀ id j', 192 ≤ id → (e_up M (147 + 2 * m) j x) id j' = M id j' := fun id j' h => c_up_n (by clear w1; omega)
      have c2 := h_189 (d := (m : Int)) (w := -1) (M := e_up M (147 + 2 * m) j x) (by decide)
      rw [eno _ (fun id j' h _ => fr id j' h)] at c2
      have b7 : 0 ≤ (m : Int) ∧ (m : Int) ≤ 7 := by
        clear w1
        omega
      obtain ⟨-, l2, l3, -⟩ := r_isD (m : Int) (e_up M (147 + 2 * m) j x) b7
      rw [fr _ _ (by decide), Int.toNat_natCast] at l2 l3
      rw [hn] at l3
      have kin := r_in1 (M := e_up M (147 + 2 * m) j x) (x := i) (lo := 0) (hi := n - 1) (by clear w1; omega)
      have b8 : 0 ≤ 120 * (m : Int) + i ∧ 120 * (m : Int) + i < 960 := by
        clear w1
        omega
      have en : (120 * (m : Int) + i).toNat = 120 * m + j := by
        clear w1
        omega
      have st : ∀ v M, e_st 100 [198, 120 * (m : Int) + i, v] M = some (e_up M 198 (120 * m + j) v) := fun v M => (r_st (n := 960) (by decide) (by decide +kernel) (by decide +kernel) b8.1 b8.2).trans (by rw [en]; rfl)
      have w2 : e_w (120 * (m : Int)) = 120 * (m : Int) ∧ e_w (120 * (m : Int) + i) = 120 * (m : Int) + i := by
        clear w1 st en l l2 l3 e88 kin c2
        refine ⟨?_, ?_⟩ <;> exact a_w_id (by omega) (by omega)
      have e3 := Prod.mk.inj (Option.some.inj (k2.symm.trans (h_260y c2 l3 w1 kin l2 b24 b25 hx w2.1 w2.2 st)))
      obtain ⟨e3, e4⟩ := e3
      subst e4
      clear w1 w2 st
      refine ⟨e1.trans e3.symm, fun d hd => ?_⟩
      have z : ∀ id k, id ≠ 198 → id ≠ 147 + 2 * m → (e_up (e_up M (147 + 2 * m) j x) 198 (120 * m + j) x) id k = M id k := fun id k a b => by
        rw [c_up_n (fun h => a h.1), c_up_n (fun h => b h.1)]
      rw [z 195 _ (by decide) (by omega), z 196 _ (by decide) (by omega), z 197 _ (by decide) (by omega), z (146 + 2 * d) _ (by omega) (by omega), z (146 + 2 * d) _ (by omega) (by omega), z (146 + 2 * d) _ (by omega) (by omega), z (146 + 2 * d) _ (by omega) (by omega)]
      rcases hS d hd with h | h | ⟨b1, b2, b3, b4, b5, b6⟩
      · exact Or.inl h
      · exact Or.inr (Or.inl h)
      · refine Or.inr (Or.inr ⟨b1, b2, b3, b4, b5, fun k hk => ?_⟩)
        by_cases e : d = m ∧ k = j
        · obtain ⟨rfl, rfl⟩ := e
          rw [c_up_n (by omega), c_up_s, c_up_s]
        · rw [c_up_n (by omega), c_up_n (by omega), c_up_n (by omega), c_up_n (by omega)]
          exact b6 k hk
    · have e1 := Prod.mk.inj (Option.some.inj (k1.symm.trans (h_141m (v := v) hh c0 c1 hn5 (by clear w1; omega))))
      obtain ⟨e1, e2⟩ := e1
      subst e2
      have c2 := h_189 (d := (m : Int)) (w := -1) (M := M1) (by decide)
      rw [q] at c2
      have b7 : 0 ≤ (m : Int) ∧ (m : Int) ≤ 7 := by
        clear w1
        omega
      obtain ⟨-, l2, l3, -⟩ := r_isD (m : Int) M1 b7
      rw [Int.toNat_natCast, hn] at l3
      have kin := r_in0 (M := M1) (x := i) (lo := 0) (hi := n - 1) (fun h => c (by clear w1; omega))
      have e3 := Prod.mk.inj (Option.some.inj (k2.symm.trans (h_260m (v := v) c2 l3 w1 kin)))
      rw [e1, e3.1, e3.2]
      exact ⟨rfl, hS⟩
  · have cc : ∃ x, E_C 154 [8, d] M = some (x, M) ∧ E_C 156 [x, -1] M = some (h_no M d (-1), M) := by
      by_cases hd : 0 ≤ d ∧ d < 8
      · exact ⟨_, h_ref hS hd⟩
      · obtain ⟨a, b, c⟩ := h_ref1 (w := -1) (M := M) hd
        exact ⟨-1, a, by rw [c]; exact b⟩
    obtain ⟨x, c0, c1⟩ := cc
    have e1 := Prod.mk.inj (Option.some.inj (k1.symm.trans (h_141n (v := v) (i := i) c0 c1 q)))
    obtain ⟨e1, e2⟩ := e1
    subst e2
    have c2 := h_189 (d := d) (w := -1) (M := M1) (by decide)
    have e3 := Prod.mk.inj (Option.some.inj (k2.symm.trans (h_260n (v := v) (i := i) c2 q)))
    rw [e1, e3.1, e3.2]
    exact ⟨rfl, hS⟩
end
section
/-! SHELVES: keep -/
def h_wH : AW := [(199, 0, 7), (200, 0, 7), (201, 0, 7)]
theorem h_sh_up {M : EM} {a k : Nat} {v : Int} (ha : a = 199 ∨ a = 200 ∨ a = 201) (hk : k ≤ 7) (hv : -2147483648 ≤ v ∧ v ≤ 2147483647) (hJ : r_J M) : r_J (e_up M a k v) ∧ a_fr (h_wH ++ r_wq) M (e_up M a k v) := by
  refine ⟨(r_sh_up (Or.inr ha) hk hv hJ).1, fun b j hw => c_up_n (fun hc => ?_)⟩
  have hm : (a, 0, 7) ∈ h_wH := by
    rcases ha with rfl | rfl | rfl <;> decide
  exact hw _ (List.mem_append.mpr (Or.inl hm)) ⟨hc.1.symm, Nat.zero_le _, by have := hc.2; show j ≤ 7; omega⟩
theorem h_keep2 {d w p : Int} {M : EM} (hJ : r_J M) : ∃ r M', E_C 258 [192, d, w, p] M = some (r, M') ∧ ((((0 ≤ d ∧ d ≤ 7) ∧ (0 ≤ w ∧ w ≤ 1) ∧ (w = 1 → 0 ≤ p ∧ p < r_G M 1198)) ∧ r = 0 ∧ a_fr (h_wH ++ r_wq) (e_up M 195 d.toNat w) M') ∨ (¬ ((0 ≤ d ∧ d ≤ 7) ∧ (0 ≤ w ∧ w ≤ 1) ∧ (w = 1 → 0 ≤ p ∧ p < r_G M 1198)) ∧ r = -1 ∧ M' = M)) := by
  have hW := (r_J_E hJ).2.1
  have ks := r_isShelf d M
  by_cases q0 : 0 ≤ d ∧ d ≤ 7
  · rw [if_pos q0] at ks
    by_cases q1 : 0 ≤ w ∧ w ≤ 1
    · have i1 := r_in1 (M := M) q1
      obtain ⟨u1, v1⟩ := r_sh_up (a := 195) (k := d.toNat) (v := w) (Or.inl rfl) (by omega) ⟨by omega, by omega⟩ hJ
      have s1 : e_st 100 [195, d, w] M = some (e_up M 195 d.toNat w) := r_shst (a := 195) (Or.inl rfl) q0
      by_cases q2 : w = 1
      · by_cases q3 : 0 ≤ p ∧ p < r_G M 1198
        · have ip := r_ip1 hW q3
          have h40 := r_40 hW q3
          have g1 : r_G (e_up M 195 d.toNat w) = r_G M := r_up_Gne (by decide)
          obtain ⟨M2, k2, u2, v2, c2⟩ := r_gathers u1 (p := p) (by rw [g1]; exact q3)
          have g2 : r_G M2 = r_G M := (r_q_G v2).trans g1
          have kk2 : E_C 170 [192, p] M2 = some (r_G M2 (28 * p), M2) := r_kind h40
          have s2 := fun v => r_shst (a := 199) (d := d) (v := v) (M := M2) (Or.inr (Or.inl rfl)) q0
          obtain ⟨u3, v3⟩ := h_sh_up (a := 199) (k := d.toNat) (v := r_G M2 (28 * p)) (Or.inl rfl) (by omega) (r_gr u2.1 _) u2
          have g3 : r_G (e_up M2 199 d.toNat (r_G M2 (28 * p))) = r_G M := (r_up_Gne (by decide)).trans g2
          obtain ⟨c, kc, hc⟩ := r_currentOf (u := 0) (r_J_E u3) (r_J_E u3).2.1.2.1 (r_pt_of (r_J_E u3).2.1 (p := p) (by rw [g3]; exact q3))
          have s3 := fun M => r_shst (a := 201) (d := d) (v := c) (M := M) (Or.inr (Or.inr (Or.inr rfl))) q0
          obtain ⟨u4, v4⟩ := h_sh_up (a := 201) (k := d.toNat) (v := c) (Or.inr (Or.inr rfl)) (by omega) hc u3
          have g4 : r_G (e_up (e_up M2 199 d.toNat (r_G M2 (28 * p))) 201 d.toNat c) = r_G M := (r_up_Gne (by decide)).trans g3
          have hf4 : a_fr (h_wH ++ r_wq) (e_up M 195 d.toNat w) (e_up (e_up M2 199 d.toNat (r_G M2 (28 * p))) 201 d.toNat c) := a_fr_tr (c_sub_r v2) (a_fr_tr v3 v4)
          generalize hM4 : e_up (e_up M2 199 d.toNat (r_G M2 (28 * p))) 201 d.toNat c = M4 at u4 g4 hf4
          have kk4 : E_C 170 [192, p] M4 = some (r_G M (28 * p), M4) := by rw [← g4]; exact r_kind h40
          have km4 : E_C 171 [192, p] M4 = some (r_G M (28 * p + 2), M4) := by rw [← g4]; exact r_many h40
          have w9 : e_w (10 + p) = 10 + p := a_w_id (by omega) (by omega)
          have hfin : ∀ v : Int, (-2147483648 ≤ v ∧ v ≤ 2147483647) → ∃ M', E_V 258 196 [192, d, w, p] (e_up M4 200 d.toNat v) = some (0, M') ∧ r_J M' ∧ a_fr (h_wH ++ r_wq) (e_up M 195 d.toNat w) M' := by
            intro v hv
            obtain ⟨u5, v5⟩ := h_sh_up (a := 200) (k := d.toNat) (v := v) (Or.inr (Or.inl rfl)) (by omega) hv u4
            refine ⟨_, ?_, u5, a_fr_tr hf4 v5⟩
            rw [E_V_eq]
            show e_tv E_C (E_V 258) e_t258_196 [192, d, w, p] (e_up M4 200 d.toNat v) = _
            unfold e_t258_196
            simp [zq_a, zq_b, zq_c, zq_d, zq_e, zq_f, zq_g, zq_h, zq_i, zq_j, zq_k, zq_l, zq_m, zq_n, zq_o, zq_p, zq_q, zq_r, zq_s, zq_t, zq_u, zq_v, zq_w, zq_x, zq_y, zq_z, zq_A, zq_B, zq_C, zq_D, zq_E, zq_F, zq_G, zq_H, zq_I, zq_J, zq_K, zq_L, ↓zq_M, ↓zq_N, ↓zq_O, ↓zq_P, ↓zq_Q, ↓zq_R, zq_S, zq_T, zq_U, zq_V, zq_W, zq_X, zq_Y, zq_Z, zq_0, zq_1, zq_2, zq_3, zq_4, zq_5, ↓zq_6, ↓zq_7, ↓zq_8, ↓zq_9, ↓zq_aa, zq_ab, zq_ac, zq_ad, zq_ae, zq_af, zq_ag, ↓zq_ah, ↓zq_ai, ↓zq_aj, zq_ak, ↓zq_al, ↓zq_am, e_b1, e_b2, x_o1, x_o2]
          have s4 := fun v => r_shst (a := 200) (d := d) (v := v) (M := M4) (Or.inr (Or.inr (Or.inl rfl))) q0
          have hpt := r_pt_of hW q3
          have hm := hpt
          have j104 : r_G M (28 * p) = 0 → ∃ M', E_V 258 104 [192, d, w, p] M4 = some (0, M') ∧ r_J M' ∧ a_fr (h_wH ++ r_wq) (e_up M 195 d.toNat w) M' := by
            intro hk
            have hcl := r_pt_cell hpt hk
            have h1 := hcl.2.2.2.1
            have h2 := hcl.2.2.2.2.1
            have w1 : e_w (r_G M (28 * p + 2) - 1) = r_G M (28 * p + 2) - 1 := a_w_id (by omega) (by omega)
            have w2 : e_w (28 * p) = 28 * p := a_w_id (by omega) (by omega)
            have w3 : e_w (28 * p + 3) = 28 * p + 3 := a_w_id (by omega) (by omega)
            have w4 : e_w (28 * p + 3 + (r_G M (28 * p + 2) - 1)) = 28 * p + 3 + (r_G M (28 * p + 2) - 1) := a_w_id (by omega) (by omega)
            have lo : e_op 60 [193, 28 * p + 3 + (r_G M (28 * p + 2) - 1)] M4 = some (r_G M4 (28 * p + 3 + (r_G M (28 * p + 2) - 1))) := r_rd (by omega) (by omega)
            have ko : E_C 172 [192, p, r_G M (28 * p + 2) - 1] M4 = some (r_G M4 (28 * p + 3 + (r_G M (28 * p + 2) - 1)), M4) := by
              rw [r_ent (show e_rok 172 [192, p, r_G M (28 * p + 2) - 1] = true from decide_eq_true r_ref)]
              show e_tv E_C (E_V 172) e_t172_0 [192, p, r_G M (28 * p + 2) - 1] M4 = _
              unfold e_t172_0
              simp [zq_a, zq_b, zq_c, zq_d, zq_e, zq_f, zq_g, zq_h, zq_i, zq_j, zq_k, zq_l, zq_m, zq_n, zq_o, zq_p, zq_q, zq_r, zq_s, zq_t, zq_u, zq_v, zq_w, zq_x, zq_y, zq_z, zq_A, zq_B, zq_C, zq_D, zq_E, zq_F, zq_G, zq_H, zq_I, zq_J, zq_K, zq_L, ↓zq_M, ↓zq_N, ↓zq_O, ↓zq_P, ↓zq_Q, ↓zq_R, zq_S, zq_T, zq_U, zq_V, zq_W, zq_X, zq_Y, zq_Z, zq_0, zq_1, zq_2, zq_3, zq_4, zq_5, ↓zq_6, ↓zq_7, ↓zq_8, ↓zq_9, ↓zq_aa, zq_ab, zq_ac, zq_ad, zq_ae, zq_af, zq_ag, ↓zq_ah, ↓zq_ai, ↓zq_aj, zq_ak, ↓zq_al, ↓zq_am, e_b1, e_b2, x_o1, x_o2, r_O0, w2, w3, w4, lo]
            obtain ⟨M', k, t⟩ := hfin (e_w (10 + p + r_G M4 (28 * p + 3 + (r_G M (28 * p + 2) - 1)))) (a_w _)
            refine ⟨M', ?_, t⟩
            rw [E_V_eq]
            show e_tv E_C (E_V 258) e_t258_104 [192, d, w, p] M4 = _
            unfold e_t258_104
            simp [zq_a, zq_b, zq_c, zq_d, zq_e, zq_f, zq_g, zq_h, zq_i, zq_j, zq_k, zq_l, zq_m, zq_n, zq_o, zq_p, zq_q, zq_r, zq_s, zq_t, zq_u, zq_v, zq_w, zq_x, zq_y, zq_z, zq_A, zq_B, zq_C, zq_D, zq_E, zq_F, zq_G, zq_H, zq_I, zq_J, zq_K, zq_L, ↓zq_M, ↓zq_N, ↓zq_O, ↓zq_P, ↓zq_Q, ↓zq_R, zq_S, zq_T, zq_U, zq_V, zq_W, zq_X, zq_Y, zq_Z, zq_0, zq_1, zq_2, zq_3, zq_4, zq_5, ↓zq_6, ↓zq_7, ↓zq_8, ↓zq_9, ↓zq_aa, zq_ab, zq_ac, zq_ad, zq_ae, zq_af, zq_ag, ↓zq_ah, ↓zq_ai, ↓zq_aj, zq_ak, ↓zq_al, ↓zq_am, e_b1, e_b2, x_o1, x_o2, r_O7, km4, w1, ko, w9, s4, k]
          have j130 : ∃ M', E_V 258 130 [192, d, w, p] M4 = some (0, M') ∧ r_J M' ∧ a_fr (h_wH ++ r_wq) (e_up M 195 d.toNat w) M' := by
            obtain ⟨M', k, t⟩ := hfin (e_w (10 + p + e_w (10 * M4 192 13))) (a_w _)
            refine ⟨M', ?_, t⟩
            rw [E_V_eq]
            show e_tv E_C (E_V 258) e_t258_130 [192, d, w, p] M4 = _
            unfold e_t258_130
            simp [zq_a, zq_b, zq_c, zq_d, zq_e, zq_f, zq_g, zq_h, zq_i, zq_j, zq_k, zq_l, zq_m, zq_n, zq_o, zq_p, zq_q, zq_r, zq_s, zq_t, zq_u, zq_v, zq_w, zq_x, zq_y, zq_z, zq_A, zq_B, zq_C, zq_D, zq_E, zq_F, zq_G, zq_H, zq_I, zq_J, zq_K, zq_L, ↓zq_M, ↓zq_N, ↓zq_O, ↓zq_P, ↓zq_Q, ↓zq_R, zq_S, zq_T, zq_U, zq_V, zq_W, zq_X, zq_Y, zq_Z, zq_0, zq_1, zq_2, zq_3, zq_4, zq_5, ↓zq_6, ↓zq_7, ↓zq_8, ↓zq_9, ↓zq_aa, zq_ab, zq_ac, zq_ad, zq_ae, zq_af, zq_ag, ↓zq_ah, ↓zq_ai, ↓zq_aj, zq_ak, ↓zq_al, ↓zq_am, e_b1, e_b2, x_o1, x_o2, r_O7, r_F13, w9, s4, k]
          have j151 : ∃ M', E_V 258 151 [192, d, w, p] M4 = some (0, M') ∧ r_J M' ∧ a_fr (h_wH ++ r_wq) (e_up M 195 d.toNat w) M' := by
            obtain ⟨M', k, t⟩ := hfin (e_w (2 * e_w (10 + p + e_w (10 * M4 192 13)))) (a_w _)
            refine ⟨M', ?_, t⟩
            rw [E_V_eq]
            show e_tv E_C (E_V 258) e_t258_151 [192, d, w, p] M4 = _
            unfold e_t258_151
            simp [zq_a, zq_b, zq_c, zq_d, zq_e, zq_f, zq_g, zq_h, zq_i, zq_j, zq_k, zq_l, zq_m, zq_n, zq_o, zq_p, zq_q, zq_r, zq_s, zq_t, zq_u, zq_v, zq_w, zq_x, zq_y, zq_z, zq_A, zq_B, zq_C, zq_D, zq_E, zq_F, zq_G, zq_H, zq_I, zq_J, zq_K, zq_L, ↓zq_M, ↓zq_N, ↓zq_O, ↓zq_P, ↓zq_Q, ↓zq_R, zq_S, zq_T, zq_U, zq_V, zq_W, zq_X, zq_Y, zq_Z, zq_0, zq_1, zq_2, zq_3, zq_4, zq_5, ↓zq_6, ↓zq_7, ↓zq_8, ↓zq_9, ↓zq_aa, zq_ab, zq_ac, zq_ad, zq_ae, zq_af, zq_ag, ↓zq_ah, ↓zq_ai, ↓zq_aj, zq_ak, ↓zq_al, ↓zq_am, e_b1, e_b2, x_o1, x_o2, r_O7, r_F13, w9, s4, k]
          have j174 : ∃ M', E_V 258 174 [192, d, w, p] M4 = some (0, M') ∧ r_J M' ∧ a_fr (h_wH ++ r_wq) (e_up M 195 d.toNat w) M' := by
            have w2 : e_w (28 * p) = 28 * p := a_w_id (by omega) (by omega)
            have w3 : e_w (28 * p + 5) = 28 * p + 5 := a_w_id (by omega) (by omega)
            have lo : e_op 60 [193, 28 * p + 5] M4 = some (r_G M4 (28 * p + 5)) := r_rd (by omega) (by omega)
            obtain ⟨M', k, t⟩ := hfin (e_w (10 + p + r_G M4 (28 * p + 5))) (a_w _)
            refine ⟨M', ?_, t⟩
            rw [E_V_eq]
            show e_tv E_C (E_V 258) e_t258_174 [192, d, w, p] M4 = _
            unfold e_t258_174
            simp [zq_a, zq_b, zq_c, zq_d, zq_e, zq_f, zq_g, zq_h, zq_i, zq_j, zq_k, zq_l, zq_m, zq_n, zq_o, zq_p, zq_q, zq_r, zq_s, zq_t, zq_u, zq_v, zq_w, zq_x, zq_y, zq_z, zq_A, zq_B, zq_C, zq_D, zq_E, zq_F, zq_G, zq_H, zq_I, zq_J, zq_K, zq_L, ↓zq_M, ↓zq_N, ↓zq_O, ↓zq_P, ↓zq_Q, ↓zq_R, zq_S, zq_T, zq_U, zq_V, zq_W, zq_X, zq_Y, zq_Z, zq_0, zq_1, zq_2, zq_3, zq_4, zq_5, ↓zq_6, ↓zq_7, ↓zq_8, ↓zq_9, ↓zq_aa, zq_ab, zq_ac, zq_ad, zq_ae, zq_af, zq_ag, ↓zq_ah, ↓zq_ai, ↓zq_aj, zq_ak, ↓zq_al, ↓zq_am, e_b1, e_b2, x_o1, x_o2, r_O0, r_O7, w2, w3, w9, lo, s4, k]
          have hgo : ∃ l : Nat, (∃ M', E_V 258 l [192, d, w, p] M4 = some (0, M') ∧ r_J M' ∧ a_fr (h_wH ++ r_wq) (e_up M 195 d.toNat w) M') ∧ ∀ t, e_tv E_C (E_V 258) e_t258_0 [192, d, w, p] M = t ↔ E_V 258 l [192, d, w, p] M4 = t := by
            unfold e_t258_0
            subst q2
            rcases hm with h | h | h | h
            · have hk := h.2.2.1
              refine ⟨104, j104 hk, fun t => ?_⟩
              rw [hk] at kk4
              simp [zq_a, zq_b, zq_c, zq_d, zq_e, zq_f, zq_g, zq_h, zq_i, zq_j, zq_k, zq_l, zq_m, zq_n, zq_o, zq_p, zq_q, zq_r, zq_s, zq_t, zq_u, zq_v, zq_w, zq_x, zq_y, zq_z, zq_A, zq_B, zq_C, zq_D, zq_E, zq_F, zq_G, zq_H, zq_I, zq_J, zq_K, zq_L, ↓zq_M, ↓zq_N, ↓zq_O, ↓zq_P, ↓zq_Q, ↓zq_R, zq_S, zq_T, zq_U, zq_V, zq_W, zq_X, zq_Y, zq_Z, zq_0, zq_1, zq_2, zq_3, zq_4, zq_5, ↓zq_6, ↓zq_7, ↓zq_8, ↓zq_9, ↓zq_aa, zq_ab, zq_ac, zq_ad, zq_ae, zq_af, zq_ag, ↓zq_ah, ↓zq_ai, ↓zq_aj, zq_ak, ↓zq_al, ↓zq_am, e_b1, e_b2, x_o1, x_o2, e_len, e_nth, r_O2, r_O6, r_O8, ks, i1, ip, s1, k2, kk2, s2, kc, s3, hM4, kk4]
            · have hk := h.2.2.1
              refine ⟨130, j130, fun t => ?_⟩
              rw [hk] at kk4
              simp [zq_a, zq_b, zq_c, zq_d, zq_e, zq_f, zq_g, zq_h, zq_i, zq_j, zq_k, zq_l, zq_m, zq_n, zq_o, zq_p, zq_q, zq_r, zq_s, zq_t, zq_u, zq_v, zq_w, zq_x, zq_y, zq_z, zq_A, zq_B, zq_C, zq_D, zq_E, zq_F, zq_G, zq_H, zq_I, zq_J, zq_K, zq_L, ↓zq_M, ↓zq_N, ↓zq_O, ↓zq_P, ↓zq_Q, ↓zq_R, zq_S, zq_T, zq_U, zq_V, zq_W, zq_X, zq_Y, zq_Z, zq_0, zq_1, zq_2, zq_3, zq_4, zq_5, ↓zq_6, ↓zq_7, ↓zq_8, ↓zq_9, ↓zq_aa, zq_ab, zq_ac, zq_ad, zq_ae, zq_af, zq_ag, ↓zq_ah, ↓zq_ai, ↓zq_aj, zq_ak, ↓zq_al, ↓zq_am, e_b1, e_b2, x_o1, x_o2, e_len, e_nth, r_O2, r_O6, r_O8, ks, i1, ip, s1, k2, kk2, s2, kc, s3, hM4, kk4]
            · have hk := h.2.2.1
              refine ⟨151, j151, fun t => ?_⟩
              rw [hk] at kk4
              simp [zq_a, zq_b, zq_c, zq_d, zq_e, zq_f, zq_g, zq_h, zq_i, zq_j, zq_k, zq_l, zq_m, zq_n, zq_o, zq_p, zq_q, zq_r, zq_s, zq_t, zq_u, zq_v, zq_w, zq_x, zq_y, zq_z, zq_A, zq_B, zq_C, zq_D, zq_E, zq_F, zq_G, zq_H, zq_I, zq_J, zq_K, zq_L, ↓zq_M, ↓zq_N, ↓zq_O, ↓zq_P, ↓zq_Q, ↓zq_R, zq_S, zq_T, zq_U, zq_V, zq_W, zq_X, zq_Y, zq_Z, zq_0, zq_1, zq_2, zq_3, zq_4, zq_5, ↓zq_6, ↓zq_7, ↓zq_8, ↓zq_9, ↓zq_aa, zq_ab, zq_ac, zq_ad, zq_ae, zq_af, zq_ag, ↓zq_ah, ↓zq_ai, ↓zq_aj, zq_ak, ↓zq_al, ↓zq_am, e_b1, e_b2, x_o1, x_o2, e_len, e_nth, r_O2, r_O6, r_O8, ks, i1, ip, s1, k2, kk2, s2, kc, s3, hM4, kk4]
            · have hk := h.2.2.1
              refine ⟨174, j174, fun t => ?_⟩
              rw [hk] at kk4
              simp [zq_a, zq_b, zq_c, zq_d, zq_e, zq_f, zq_g, zq_h, zq_i, zq_j, zq_k, zq_l, zq_m, zq_n, zq_o, zq_p, zq_q, zq_r, zq_s, zq_t, zq_u, zq_v, zq_w, zq_x, zq_y, zq_z, zq_A, zq_B, zq_C, zq_D, zq_E, zq_F, zq_G, zq_H, zq_I, zq_J, zq_K, zq_L, ↓zq_M, ↓zq_N, ↓zq_O, ↓zq_P, ↓zq_Q, ↓zq_R, zq_S, zq_T, zq_U, zq_V, zq_W, zq_X, zq_Y, zq_Z, zq_0, zq_1, zq_2, zq_3, zq_4, zq_5, ↓zq_6, ↓zq_7, ↓zq_8, ↓zq_9, ↓zq_aa, zq_ab, zq_ac, zq_ad, zq_ae, zq_af, zq_ag, ↓zq_ah, ↓zq_ai, ↓zq_aj, zq_ak, ↓zq_al, ↓zq_am, e_b1, e_b2, x_o1, x_o2, e_len, e_nth, r_O2, r_O6, r_O8, ks, i1, ip, s1, k2, kk2, s2, kc, s3, hM4, kk4]
          obtain ⟨l, ⟨M', k, t⟩, hgo⟩ := hgo
          refine ⟨0, M', ?_, Or.inl ⟨⟨q0, q1, fun _ => q3⟩, rfl, t.2⟩⟩
          rw [r_ent (show e_rok 258 [192, d, w, p] = true from decide_eq_true r_ref)]
          show e_tv E_C (E_V 258) e_t258_0 [192, d, w, p] M = _
          unfold e_t258_0
          exact (hgo _).mpr k
        · have ip := r_ip0 hW q3
          refine ⟨-1, M, ?_, Or.inr ⟨fun e => q3 (e.2.2 q2), rfl, rfl⟩⟩
          subst q2
          rw [r_ent (show e_rok 258 [192, d, 1, p] = true from decide_eq_true r_ref)]
          show e_tv E_C (E_V 258) e_t258_0 [192, d, 1, p] M = _
          unfold e_t258_0
          simp [zq_a, zq_b, zq_c, zq_d, zq_e, zq_f, zq_g, zq_h, zq_i, zq_j, zq_k, zq_l, zq_m, zq_n, zq_o, zq_p, zq_q, zq_r, zq_s, zq_t, zq_u, zq_v, zq_w, zq_x, zq_y, zq_z, zq_A, zq_B, zq_C, zq_D, zq_E, zq_F, zq_G, zq_H, zq_I, zq_J, zq_K, zq_L, ↓zq_M, ↓zq_N, ↓zq_O, ↓zq_P, ↓zq_Q, ↓zq_R, zq_S, zq_T, zq_U, zq_V, zq_W, zq_X, zq_Y, zq_Z, zq_0, zq_1, zq_2, zq_3, zq_4, zq_5, ↓zq_6, ↓zq_7, ↓zq_8, ↓zq_9, ↓zq_aa, zq_ab, zq_ac, zq_ad, zq_ae, zq_af, zq_ag, ↓zq_ah, ↓zq_ai, ↓zq_aj, zq_ak, ↓zq_al, ↓zq_am, e_b1, e_b2, x_o1, x_o2, ks, i1, ip]
      · have q2' : w = 0 := by omega
        refine ⟨0, _, ?_, Or.inl ⟨⟨q0, q1, fun e => absurd e q2⟩, rfl, a_fr_rf⟩⟩
        subst q2'
        rw [r_ent (show e_rok 258 [192, d, 0, p] = true from decide_eq_true r_ref)]
        show e_tv E_C (E_V 258) e_t258_0 [192, d, 0, p] M = _
        unfold e_t258_0
        simp [zq_a, zq_b, zq_c, zq_d, zq_e, zq_f, zq_g, zq_h, zq_i, zq_j, zq_k, zq_l, zq_m, zq_n, zq_o, zq_p, zq_q, zq_r, zq_s, zq_t, zq_u, zq_v, zq_w, zq_x, zq_y, zq_z, zq_A, zq_B, zq_C, zq_D, zq_E, zq_F, zq_G, zq_H, zq_I, zq_J, zq_K, zq_L, ↓zq_M, ↓zq_N, ↓zq_O, ↓zq_P, ↓zq_Q, ↓zq_R, zq_S, zq_T, zq_U, zq_V, zq_W, zq_X, zq_Y, zq_Z, zq_0, zq_1, zq_2, zq_3, zq_4, zq_5, ↓zq_6, ↓zq_7, ↓zq_8, ↓zq_9, ↓zq_aa, zq_ab, zq_ac, zq_ad, zq_ae, zq_af, zq_ag, ↓zq_ah, ↓zq_ai, ↓zq_aj, zq_ak, ↓zq_al, ↓zq_am, e_b1, e_b2, x_o1, x_o2, r_O2, ks, i1, s1]
    · have i1 := r_in0 (M := M) q1
      refine ⟨-1, M, ?_, Or.inr ⟨fun e => q1 e.2.1, rfl, rfl⟩⟩
      rw [r_ent (show e_rok 258 [192, d, w, p] = true from decide_eq_true r_ref)]
      show e_tv E_C (E_V 258) e_t258_0 [192, d, w, p] M = _
      unfold e_t258_0
      simp [zq_a, zq_b, zq_c, zq_d, zq_e, zq_f, zq_g, zq_h, zq_i, zq_j, zq_k, zq_l, zq_m, zq_n, zq_o, zq_p, zq_q, zq_r, zq_s, zq_t, zq_u, zq_v, zq_w, zq_x, zq_y, zq_z, zq_A, zq_B, zq_C, zq_D, zq_E, zq_F, zq_G, zq_H, zq_I, zq_J, zq_K, zq_L, ↓zq_M, ↓zq_N, ↓zq_O, ↓zq_P, ↓zq_Q, ↓zq_R, zq_S, zq_T, zq_U, zq_V, zq_W, zq_X, zq_Y, zq_Z, zq_0, zq_1, zq_2, zq_3, zq_4, zq_5, ↓zq_6, ↓zq_7, ↓zq_8, ↓zq_9, ↓zq_aa, zq_ab, zq_ac, zq_ad, zq_ae, zq_af, zq_ag, ↓zq_ah, ↓zq_ai, ↓zq_aj, zq_ak, ↓zq_al, ↓zq_am, e_b1, e_b2, x_o1, x_o2, ks, i1]
  · rw [if_neg q0] at ks
    refine ⟨-1, M, ?_, Or.inr ⟨fun e => q0 e.1, rfl, rfl⟩⟩
    rw [r_ent (show e_rok 258 [192, d, w, p] = true from decide_eq_true r_ref)]
    show e_tv E_C (E_V 258) e_t258_0 [192, d, w, p] M = _
    unfold e_t258_0
    simp [zq_a, zq_b, zq_c, zq_d, zq_e, zq_f, zq_g, zq_h, zq_i, zq_j, zq_k, zq_l, zq_m, zq_n, zq_o, zq_p, zq_q, zq_r, zq_s, zq_t, zq_u, zq_v, zq_w, zq_x, zq_y, zq_z, zq_A, zq_B, zq_C, zq_D, zq_E, zq_F, zq_G, zq_H, zq_I, zq_J, zq_K, zq_L, ↓zq_M, ↓zq_N, ↓zq_O, ↓zq_P, ↓zq_Q, ↓zq_R, zq_S, zq_T, zq_U, zq_V, zq_W, zq_X, zq_Y, zq_Z, zq_0, zq_1, zq_2, zq_3, zq_4, zq_5, ↓zq_6, ↓zq_7, ↓zq_8, ↓zq_9, ↓zq_aa, zq_ab, zq_ac, zq_ad, zq_ae, zq_af, zq_ag, ↓zq_ah, ↓zq_ai, ↓zq_aj, zq_ak, ↓zq_al, ↓zq_am, e_b1, e_b2, x_o1, x_o2, ks]
def h_wb : AW := [(170, 0, 7), (171, 0, 6), (172, 0, 39), (173, 0, 39), (174, 0, 39), (175, 0, 159), (176, 0, 39), (177, 0, 239), (178, 0, 239), (179, 0, 4039), (180, 0, 99), (181, 0, 999)]
def h_x165 : List AV := [a_r [8], a_i (-2147483648) 2147483647]
set_option maxRecDepth 100000 in
theorem h_c165 : (a_rok 165 h_x165 && a_an h_wb (a_orc h_wb) 60 165 [] (a_ent 165 h_x165) (.mulL 4 (.num 0))) = true := by decide +kernel
set_option maxRecDepth 100000 in
theorem h_c166 : (a_rok 166 h_x165 && a_an h_wb (a_orc h_wb) 60 166 [] (a_ent 166 h_x165) (.mulL 4 (.num 0))) = true := by decide +kernel
end
