section
/-! keep: the two answers, and SHELVES stay related -/
theorem h_149 {k : Int} {M : EM} : E_C 149 [8, k] M = some (if 0 ≤ k ∧ k < M 10 0 then 1 else 0, M) := by
  have s0 : E_C 149 [8, k] M = e_tv E_C (E_V 149) e_t149_0 [8, k] M := r_ent (u := 149) (as := [8, k]) (M := M) (decide_eq_true c_this)
  rw [s0]
  unfold e_t149_0
  have f := w_P0 M
  generalize M 10 0 = c at f ⊢
  rcases x_le 0 k with ⟨q, q_n⟩ | ⟨q, q_n⟩
  · rcases x_lt k c with ⟨q1, q1_n⟩ | ⟨q1, q1_n⟩
    · rw [if_pos ⟨q, q1⟩]
      simp [zq_a, zq_b, zq_c, zq_d, zq_e, zq_f, zq_g, zq_h, zq_i, zq_j, zq_k, zq_l, zq_m, zq_n, zq_o, zq_p, zq_q, zq_r, zq_s, zq_t, zq_u, zq_v, zq_w, zq_x, zq_y, zq_z, zq_A, zq_B, zq_C, zq_D, zq_E, zq_F, zq_G, zq_H, zq_I, zq_J, zq_K, zq_L, ↓zq_M, ↓zq_N, ↓zq_O, ↓zq_P, ↓zq_Q, ↓zq_R, zq_S, zq_T, zq_U, zq_V, zq_W, zq_X, zq_Y, zq_Z, zq_0, zq_1, zq_2, zq_3, zq_4, zq_5, ↓zq_6, ↓zq_7, ↓zq_8, ↓zq_9, ↓zq_aa, zq_ab, zq_ac, zq_ad, zq_ae, zq_af, zq_ag, ↓zq_ah, ↓zq_ai, ↓zq_aj, zq_ak, ↓zq_al, ↓zq_am, e_b1, e_b2, x_o1, x_o2, p_704, w_H0, f, q, q_n, q1, q1_n]
    · rw [if_neg (fun e => q1 e.2)]
      simp [zq_a, zq_b, zq_c, zq_d, zq_e, zq_f, zq_g, zq_h, zq_i, zq_j, zq_k, zq_l, zq_m, zq_n, zq_o, zq_p, zq_q, zq_r, zq_s, zq_t, zq_u, zq_v, zq_w, zq_x, zq_y, zq_z, zq_A, zq_B, zq_C, zq_D, zq_E, zq_F, zq_G, zq_H, zq_I, zq_J, zq_K, zq_L, ↓zq_M, ↓zq_N, ↓zq_O, ↓zq_P, ↓zq_Q, ↓zq_R, zq_S, zq_T, zq_U, zq_V, zq_W, zq_X, zq_Y, zq_Z, zq_0, zq_1, zq_2, zq_3, zq_4, zq_5, ↓zq_6, ↓zq_7, ↓zq_8, ↓zq_9, ↓zq_aa, zq_ab, zq_ac, zq_ad, zq_ae, zq_af, zq_ag, ↓zq_ah, ↓zq_ai, ↓zq_aj, zq_ak, ↓zq_al, ↓zq_am, e_b1, e_b2, x_o1, x_o2, p_704, w_H0, f, q, q_n, q1, q1_n]
  · rw [if_neg (fun e => q e.1)]
    simp [zq_a, zq_b, zq_c, zq_d, zq_e, zq_f, zq_g, zq_h, zq_i, zq_j, zq_k, zq_l, zq_m, zq_n, zq_o, zq_p, zq_q, zq_r, zq_s, zq_t, zq_u, zq_v, zq_w, zq_x, zq_y, zq_z, zq_A, zq_B, zq_C, zq_D, zq_E, zq_F, zq_G, zq_H, zq_I, zq_J, zq_K, zq_L, ↓zq_M, ↓zq_N, ↓zq_O, ↓zq_P, ↓zq_Q, ↓zq_R, zq_S, zq_T, zq_U, zq_V, zq_W, zq_X, zq_Y, zq_Z, zq_0, zq_1, zq_2, zq_3, zq_4, zq_5, ↓zq_6, ↓zq_7, ↓zq_8, ↓zq_9, ↓zq_aa, zq_ab, zq_ac, zq_ad, zq_ae, zq_af, zq_ag, ↓zq_ah, ↓zq_ai, ↓zq_aj, zq_ak, ↓zq_al, ↓zq_am, e_b1, e_b2, x_o1, x_o2, p_704, w_H0, f, q, q_n]
theorem h_85 {h : Int} (hh : h ∈ a_SH) (M : EM) : E_C 85 [h] M = some (0, e_up (e_up M h.toNat 0 0) h.toNat 1 0) := by
  obtain ⟨s1, -⟩ := w_sh hh
  have p0 : ∀ v M, e_pf 512 [h, v] M = some (e_up M h.toNat 0 v) := fun v M => c_pf s1 (by decide +kernel)
  have p1 : ∀ v M, e_pf 513 [h, v] M = some (e_up M h.toNat 1 v) := fun v M => c_pf s1 (by decide +kernel)
  rw [r_ent (show e_rok 85 [h] = true from decide_eq_true s1)]
  show e_tv E_C (E_V 85) e_t85_0 [h] M = _
  unfold e_t85_0
  simp [zq_a, zq_b, zq_c, zq_d, zq_e, zq_f, zq_g, zq_h, zq_i, zq_j, zq_k, zq_l, zq_m, zq_n, zq_o, zq_p, zq_q, zq_r, zq_s, zq_t, zq_u, zq_v, zq_w, zq_x, zq_y, zq_z, zq_A, zq_B, zq_C, zq_D, zq_E, zq_F, zq_G, zq_H, zq_I, zq_J, zq_K, zq_L, ↓zq_M, ↓zq_N, ↓zq_O, ↓zq_P, ↓zq_Q, ↓zq_R, zq_S, zq_T, zq_U, zq_V, zq_W, zq_X, zq_Y, zq_Z, zq_0, zq_1, zq_2, zq_3, zq_4, zq_5, ↓zq_6, ↓zq_7, ↓zq_8, ↓zq_9, ↓zq_aa, zq_ab, zq_ac, zq_ad, zq_ae, zq_af, zq_ag, ↓zq_ah, ↓zq_ai, ↓zq_aj, zq_ak, ↓zq_al, ↓zq_am, e_b1, e_b2, x_o1, x_o2, p0, p1]
theorem h_86 {h a c : Int} (hh : h ∈ a_SH) (M : EM) : E_C 86 [h, a, c] M = some (0, e_up (e_up (e_up (e_up M h.toNat 0 1) h.toNat 1 0) h.toNat 2 a) h.toNat 3 c) := by
  obtain ⟨s1, -⟩ := w_sh hh
  have p0 : ∀ v M, e_pf 512 [h, v] M = some (e_up M h.toNat 0 v) := fun v M => c_pf s1 (by decide +kernel)
  have p1 : ∀ v M, e_pf 513 [h, v] M = some (e_up M h.toNat 1 v) := fun v M => c_pf s1 (by decide +kernel)
  have p2 : ∀ v M, e_pf 514 [h, v] M = some (e_up M h.toNat 2 v) := fun v M => c_pf s1 (by decide +kernel)
  have p3 : ∀ v M, e_pf 515 [h, v] M = some (e_up M h.toNat 3 v) := fun v M => c_pf s1 (by decide +kernel)
  rw [r_ent (show e_rok 86 [h, a, c] = true from decide_eq_true s1)]
  show e_tv E_C (E_V 86) e_t86_0 [h, a, c] M = _
  unfold e_t86_0
  simp [zq_a, zq_b, zq_c, zq_d, zq_e, zq_f, zq_g, zq_h, zq_i, zq_j, zq_k, zq_l, zq_m, zq_n, zq_o, zq_p, zq_q, zq_r, zq_s, zq_t, zq_u, zq_v, zq_w, zq_x, zq_y, zq_z, zq_A, zq_B, zq_C, zq_D, zq_E, zq_F, zq_G, zq_H, zq_I, zq_J, zq_K, zq_L, ↓zq_M, ↓zq_N, ↓zq_O, ↓zq_P, ↓zq_Q, ↓zq_R, zq_S, zq_T, zq_U, zq_V, zq_W, zq_X, zq_Y, zq_Z, zq_0, zq_1, zq_2, zq_3, zq_4, zq_5, ↓zq_6, ↓zq_7, ↓zq_8, ↓zq_9, ↓zq_aa, zq_ab, zq_ac, zq_ad, zq_ae, zq_af, zq_ag, ↓zq_ah, ↓zq_ai, ↓zq_aj, zq_ak, ↓zq_al, ↓zq_am, e_b1, e_b2, x_o1, x_o2, p0, p1, p2, p3]
theorem h_139n {d w k x t : Int} {M : EM} (c0 : E_C 154 [8, d] M = some (x, M)) (c1 : E_C 149 [8, k] M = some (t, M)) (h : x = -1 ∨ ¬ (0 ≤ w ∧ w ≤ 1) ∨ (w = 1 ∧ t = 0)) : E_C 139 [8, d, w, k] M = some (-1, M) := by
  have s0 : E_C 139 [8, d, w, k] M = e_tv E_C (E_V 139) e_t139_0 [8, d, w, k, 0] M := r_ent (u := 139) (as := [8, d, w, k]) (M := M) (decide_eq_true c_this)
  rw [s0]
  unfold e_t139_0
  by_cases q0 : x = -1
  · simp [zq_a, zq_b, zq_c, zq_d, zq_e, zq_f, zq_g, zq_h, zq_i, zq_j, zq_k, zq_l, zq_m, zq_n, zq_o, zq_p, zq_q, zq_r, zq_s, zq_t, zq_u, zq_v, zq_w, zq_x, zq_y, zq_z, zq_A, zq_B, zq_C, zq_D, zq_E, zq_F, zq_G, zq_H, zq_I, zq_J, zq_K, zq_L, ↓zq_M, ↓zq_N, ↓zq_O, ↓zq_P, ↓zq_Q, ↓zq_R, zq_S, zq_T, zq_U, zq_V, zq_W, zq_X, zq_Y, zq_Z, zq_0, zq_1, zq_2, zq_3, zq_4, zq_5, ↓zq_6, ↓zq_7, ↓zq_8, ↓zq_9, ↓zq_aa, zq_ab, zq_ac, zq_ad, zq_ae, zq_af, zq_ag, ↓zq_ah, ↓zq_ai, ↓zq_aj, zq_ak, ↓zq_al, ↓zq_am, e_b1, e_b2, x_o1, x_o2, c0, q0]
  · rcases x_le 0 w with ⟨q1, q1_n⟩ | ⟨q1, q1_n⟩
    · rcases x_le w 1 with ⟨q2, q2_n⟩ | ⟨q2, q2_n⟩
      · have q3 : w = 1 ∧ t = 0 := by
          rcases h with h | h | h
          · exact absurd h q0
          · exact absurd ⟨q1, q2⟩ h
          · exact h
        obtain ⟨rfl, rfl⟩ := q3
        simp [zq_a, zq_b, zq_c, zq_d, zq_e, zq_f, zq_g, zq_h, zq_i, zq_j, zq_k, zq_l, zq_m, zq_n, zq_o, zq_p, zq_q, zq_r, zq_s, zq_t, zq_u, zq_v, zq_w, zq_x, zq_y, zq_z, zq_A, zq_B, zq_C, zq_D, zq_E, zq_F, zq_G, zq_H, zq_I, zq_J, zq_K, zq_L, ↓zq_M, ↓zq_N, ↓zq_O, ↓zq_P, ↓zq_Q, ↓zq_R, zq_S, zq_T, zq_U, zq_V, zq_W, zq_X, zq_Y, zq_Z, zq_0, zq_1, zq_2, zq_3, zq_4, zq_5, ↓zq_6, ↓zq_7, ↓zq_8, ↓zq_9, ↓zq_aa, zq_ab, zq_ac, zq_ad, zq_ae, zq_af, zq_ag, ↓zq_ah, ↓zq_ai, ↓zq_aj, zq_ak, ↓zq_al, ↓zq_am, e_b1, e_b2, x_o1, x_o2, c0, q0, c1]
      · simp [zq_a, zq_b, zq_c, zq_d, zq_e, zq_f, zq_g, zq_h, zq_i, zq_j, zq_k, zq_l, zq_m, zq_n, zq_o, zq_p, zq_q, zq_r, zq_s, zq_t, zq_u, zq_v, zq_w, zq_x, zq_y, zq_z, zq_A, zq_B, zq_C, zq_D, zq_E, zq_F, zq_G, zq_H, zq_I, zq_J, zq_K, zq_L, ↓zq_M, ↓zq_N, ↓zq_O, ↓zq_P, ↓zq_Q, ↓zq_R, zq_S, zq_T, zq_U, zq_V, zq_W, zq_X, zq_Y, zq_Z, zq_0, zq_1, zq_2, zq_3, zq_4, zq_5, ↓zq_6, ↓zq_7, ↓zq_8, ↓zq_9, ↓zq_aa, zq_ab, zq_ac, zq_ad, zq_ae, zq_af, zq_ag, ↓zq_ah, ↓zq_ai, ↓zq_aj, zq_ak, ↓zq_al, ↓zq_am, e_b1, e_b2, x_o1, x_o2, c0, q0, q1, q1_n, q2, q2_n]
    · simp [zq_a, zq_b, zq_c, zq_d, zq_e, zq_f, zq_g, zq_h, zq_i, zq_j, zq_k, zq_l, zq_m, zq_n, zq_o, zq_p, zq_q, zq_r, zq_s, zq_t, zq_u, zq_v, zq_w, zq_x, zq_y, zq_z, zq_A, zq_B, zq_C, zq_D, zq_E, zq_F, zq_G, zq_H, zq_I, zq_J, zq_K, zq_L, ↓zq_M, ↓zq_N, ↓zq_O, ↓zq_P, ↓zq_Q, ↓zq_R, zq_S, zq_T, zq_U, zq_V, zq_W, zq_X, zq_Y, zq_Z, zq_0, zq_1, zq_2, zq_3, zq_4, zq_5, ↓zq_6, ↓zq_7, ↓zq_8, ↓zq_9, ↓zq_aa, zq_ab, zq_ac, zq_ad, zq_ae, zq_af, zq_ag, ↓zq_ah, ↓zq_ai, ↓zq_aj, zq_ak, ↓zq_al, ↓zq_am, e_b1, e_b2, x_o1, x_o2, c0, q0, q1, q1_n]
theorem h_63 {l : List Int} {M : EM} : E_V 139 63 l M = some (0, M) := by
  rw [E_V_eq]
  show e_tv E_C (E_V 139) e_t139_63 l M = _
  unfold e_t139_63
  simp [zq_a, zq_b, zq_c, zq_d, zq_e, zq_f, zq_g, zq_h, zq_i, zq_j, zq_k, zq_l, zq_m, zq_n, zq_o, zq_p, zq_q, zq_r, zq_s, zq_t, zq_u, zq_v, zq_w, zq_x, zq_y, zq_z, zq_A, zq_B, zq_C, zq_D, zq_E, zq_F, zq_G, zq_H, zq_I, zq_J, zq_K, zq_L, ↓zq_M, ↓zq_N, ↓zq_O, ↓zq_P, ↓zq_Q, ↓zq_R, zq_S, zq_T, zq_U, zq_V, zq_W, zq_X, zq_Y, zq_Z, zq_0, zq_1, zq_2, zq_3, zq_4, zq_5, ↓zq_6, ↓zq_7, ↓zq_8, ↓zq_9, ↓zq_aa, zq_ab, zq_ac, zq_ad, zq_ae, zq_af, zq_ag, ↓zq_ah, ↓zq_ai, ↓zq_aj, zq_ak, ↓zq_al, ↓zq_am, e_b1, e_b2, x_o1, x_o2]
theorem h_139a {d k x r : Int} {M M1 : EM} (c0 : E_C 154 [8, d] M = some (x, M)) (hx : x ≠ -1) (c1 : E_C 85 [x] M = some (r, M1)) : E_C 139 [8, d, 0, k] M = some (0, M1) := by
  have s0 : E_C 139 [8, d, 0, k] M = e_tv E_C (E_V 139) e_t139_0 [8, d, 0, k, 0] M := r_ent (u := 139) (as := [8, d, 0, k]) (M := M) (decide_eq_true c_this)
  rw [s0]
  unfold e_t139_0
  simp [zq_a, zq_b, zq_c, zq_d, zq_e, zq_f, zq_g, zq_h, zq_i, zq_j, zq_k, zq_l, zq_m, zq_n, zq_o, zq_p, zq_q, zq_r, zq_s, zq_t, zq_u, zq_v, zq_w, zq_x, zq_y, zq_z, zq_A, zq_B, zq_C, zq_D, zq_E, zq_F, zq_G, zq_H, zq_I, zq_J, zq_K, zq_L, ↓zq_M, ↓zq_N, ↓zq_O, ↓zq_P, ↓zq_Q, ↓zq_R, zq_S, zq_T, zq_U, zq_V, zq_W, zq_X, zq_Y, zq_Z, zq_0, zq_1, zq_2, zq_3, zq_4, zq_5, ↓zq_6, ↓zq_7, ↓zq_8, ↓zq_9, ↓zq_aa, zq_ab, zq_ac, zq_ad, zq_ae, zq_af, zq_ag, ↓zq_ah, ↓zq_ai, ↓zq_aj, zq_ak, ↓zq_al, ↓zq_am, e_b1, e_b2, x_o1, x_o2, c0, hx, c1, h_63]
theorem h_139b {d k x a c r : Int} {M Ma Mb M1 : EM} (c0 : E_C 154 [8, d] M = some (x, M)) (hx : x ≠ -1) (c1 : E_C 149 [8, k] M = some (1, M)) (c2 : E_C 165 [8, k] M = some (a, Ma)) (c3 : E_C 166 [8, k] Ma = some (c, Mb)) (c4 : E_C 86 [x, a, c] Mb = some (r, M1)) : E_C 139 [8, d, 1, k] M = some (0, M1) := by
  have s0 : E_C 139 [8, d, 1, k] M = e_tv E_C (E_V 139) e_t139_0 [8, d, 1, k, 0] M := r_ent (u := 139) (as := [8, d, 1, k]) (M := M) (decide_eq_true c_this)
  rw [s0]
  unfold e_t139_0
  simp [zq_a, zq_b, zq_c, zq_d, zq_e, zq_f, zq_g, zq_h, zq_i, zq_j, zq_k, zq_l, zq_m, zq_n, zq_o, zq_p, zq_q, zq_r, zq_s, zq_t, zq_u, zq_v, zq_w, zq_x, zq_y, zq_z, zq_A, zq_B, zq_C, zq_D, zq_E, zq_F, zq_G, zq_H, zq_I, zq_J, zq_K, zq_L, ↓zq_M, ↓zq_N, ↓zq_O, ↓zq_P, ↓zq_Q, ↓zq_R, zq_S, zq_T, zq_U, zq_V, zq_W, zq_X, zq_Y, zq_Z, zq_0, zq_1, zq_2, zq_3, zq_4, zq_5, ↓zq_6, ↓zq_7, ↓zq_8, ↓zq_9, ↓zq_aa, zq_ab, zq_ac, zq_ad, zq_ae, zq_af, zq_ag, ↓zq_ah, ↓zq_ai, ↓zq_aj, zq_ak, ↓zq_al, ↓zq_am, e_b1, e_b2, x_o1, x_o2, c0, hx, c1, c2, c3, c4, h_63]
theorem h_wb_out {M M' : EM} (h : a_fr h_wb M M') {id k : Nat} (hi : id < 170 ∨ 181 < id) : M' id k = M id k := h id k (fun w hw hc => by
  have key : ∀ w ∈ h_wb, 170 ≤ w.1 ∧ w.1 ≤ 181 := by decide
  have := key w hw
  omega)
theorem h_wH_out {M M' : EM} (h : a_fr (h_wH ++ r_wq) M M') {id k : Nat} (hi : id < 192 ∨ 193 ≤ id ∧ id ≤ 198) : M' id k = M id k := h id k (fun w hw hc => by
  have key : ∀ w ∈ h_wH ++ r_wq, w.1 = 192 ∨ 199 ≤ w.1 := by decide
  have := key w hw
  omega)
theorem h_kept {d w k r1 r2 : Int} {M M1 M2 : EM} (hJ : r_J M) (J1 : r_J M1) (hB : h_B M 0 (r_G M)) (hS : h_S M) (hk : -2147483648 ≤ k ∧ k ≤ 2147483647) (hfr : ∀ i, M1 193 i = M 193 i) (k1 : E_C 139 [8, d, w, k] M = some (r1, M1)) (k2 : E_C 258 [192, d, w, k] M1 = some (r2, M2)) : r1 = r2 ∧ h_S M2 := by
  have eG1 : r_G M1 = r_G M := funext fun i => hfr _
  obtain ⟨r, M2', c1, c2⟩ := h_keep2 (d := d) (w := w) (p := k) J1
  have e3 := Prod.mk.inj (Option.some.inj (k2.symm.trans c1))
  obtain ⟨e3, e4⟩ := e3
  subst e3
  subst e4
  rw [eG1] at c2
  have ip := h_149 (k := k) (M := M)
  have h10 := hB.1
  rw [h10] at ip
  rcases c2 with ⟨⟨q0, q1, q2⟩, e, f⟩ | ⟨q, e, f⟩
  · obtain ⟨m, hm⟩ : ∃ m : Nat, d = m := ⟨d.toNat, by omega⟩
    have m8 : m < 8 := by omega
    have hh := (h_gr145 m8).2
    have c0 : E_C 154 [8, d] M = some (((146 + 2 * m : Nat) : Int), M) := by
      rw [hm]
      exact h_154a (by omega) (by omega) (h_rd145 m8 M)
    have hs : ((146 + 2 * m : Nat) : Int) ≠ -1 := by omega
    have em : d.toNat = m := by omega
    rw [em] at f
    -- what the class leaves
    have cl : r1 = 0 ∧ M1 (146 + 2 * m) 0 = w ∧ M1 (146 + 2 * m) 1 = 0 ∧ ∀ id j, ¬ (id = 146 + 2 * m ∧ j ≤ 3) → id < 170 ∨ 181 < id → M1 id j = M id j := by
      by_cases c : w = 1
      · subst c
        rw [if_pos (q2 rfl)] at ip
        obtain ⟨a, Ma, a1, -, a2, a3⟩ := a_entry h_c165 (as := [8, k]) (M := M) ⟨List.mem_cons_self, a_gi hk.1 hk.2, trivial⟩ hJ.1
        obtain ⟨c, Mb, b1, -, b2, b3⟩ := a_entry h_c166 (as := [8, k]) (M := Ma) ⟨List.mem_cons_self, a_gi hk.1 hk.2, trivial⟩ a2
        have e1 := Prod.mk.inj (Option.some.inj (k1.symm.trans (h_139b c0 hs ip a1 b1 (h_86 hh Mb))))
        obtain ⟨e1, e2⟩ := e1
        rw [Int.toNat_natCast] at e2
        refine ⟨e1, ?_, ?_, fun id j h h' => ?_⟩
        · rw [e2, c_up_n (by omega), c_up_n (by omega), c_up_n (by omega), c_up_s]
        · rw [e2, c_up_n (by omega), c_up_n (by omega), c_up_s]
        · rw [e2, c_up_n (by omega), c_up_n (by omega), c_up_n (by omega), c_up_n (by omega), h_wb_out b3 h', h_wb_out a3 h']
      · have w0 : w = 0 := by omega
        subst w0
        have e1 := Prod.mk.inj (Option.some.inj (k1.symm.trans (h_139a c0 hs (h_85 hh M))))
        obtain ⟨e1, e2⟩ := e1
        rw [Int.toNat_natCast] at e2
        refine ⟨e1, ?_, ?_, fun id j h h' => ?_⟩
        · rw [e2, c_up_n (by omega), c_up_s]
        · rw [e2, c_up_s]
        · rw [e2, c_up_n (by omega), c_up_n (by omega)]
    obtain ⟨l1, l2, l3, l4⟩ := cl
    have z : ∀ id j, id < 192 ∨ 196 ≤ id ∧ id ≤ 198 → M2 id j = M1 id j := fun id j h => by
      rw [h_wH_out f (by omega)]
      exact c_up_n (by omega)
    have zk : M2 195 m = w := by
      rw [h_wH_out f (by omega)]
      exact c_up_s
    have zk2 : ∀ j, j ≠ m → M2 195 j = M 195 j := fun j hj => by
      rw [h_wH_out f (by omega), c_up_n (by omega)]
      exact l4 _ _ (by omega) (by omega)
    refine ⟨l1.trans e.symm, h_S_set (m := m) hS ?_ (fun d' hd' hne => ?_)⟩
    · by_cases c : w = 1
      · exact Or.inr (Or.inl ⟨zk.trans c, (z _ _ (by omega)).trans (l2.trans c), (z _ _ (by omega)).trans l3⟩)
      · have w0 : w = 0 := by omega
        exact Or.inl ⟨zk.trans w0, (z _ _ (by omega)).trans (l2.trans w0), (z _ _ (by omega)).trans l3⟩
    · have zz : ∀ id j, (id = 146 + 2 * d' ∨ id = 147 + 2 * d' ∨ 196 ≤ id ∧ id ≤ 198) → M2 id j = M id j := fun id j h => (z id j (by omega)).trans (l4 id j (by omega) (by omega))
      exact ⟨zk2 d' hne, zz _ _ (by omega), zz _ _ (by omega), zz _ _ (by omega), zz _ _ (by omega), zz _ _ (by omega), zz _ _ (by omega), fun i hi => ⟨zz _ _ (by omega), zz _ _ (by omega)⟩⟩
  · have e1 : r1 = -1 ∧ M1 = M := by
      by_cases hd : 0 ≤ d ∧ d < 8
      · obtain ⟨m, hm⟩ : ∃ m : Nat, d = m := ⟨d.toNat, by omega⟩
        have c0 : E_C 154 [8, d] M = some (((146 + 2 * m : Nat) : Int), M) := by
          rw [hm]
          exact h_154a (by omega) (by omega) (h_rd145 (by omega) M)
        refine Prod.mk.inj (Option.some.inj (k1.symm.trans (h_139n c0 ip ?_)))
        by_cases c : 0 ≤ w ∧ w ≤ 1
        · refine Or.inr (Or.inr ?_)
          by_cases c1 : w = 1
          · refine ⟨c1, if_neg (fun e => q ⟨by omega, c, fun _ => e⟩)⟩
          · exact absurd ⟨⟨hd.1, by omega⟩, c, fun e => absurd e c1⟩ q
        · exact Or.inr (Or.inl c)
      · exact Prod.mk.inj (Option.some.inj (k1.symm.trans (h_139n (h_154n hd) ip (Or.inl rfl))))
    rw [e1.1, e, f, e1.2]
    exact ⟨rfl, hS⟩
end
section
/-! SHELVES: copy -/
theorem h_143a {d i e j n x y : Int} {M : EM} (c0 : E_C 154 [8, d] M = some (x, M)) (c1 : E_C 154 [8, e] M = some (y, M)) (h : x = -1 ∨ y = -1) : E_C 143 [8, d, i, e, j, n] M = some (-1, M) := by
  have s0 : E_C 143 [8, d, i, e, j, n] M = e_tv E_C (E_V 143) e_t143_0 [8, d, i, e, j, n, 0, 0] M := r_ent (u := 143) (as := [8, d, i, e, j, n]) (M := M) (decide_eq_true c_this)
  rw [s0]
  unfold e_t143_0
  by_cases q : x = -1
  · simp [zq_a, zq_b, zq_c, zq_d, zq_e, zq_f, zq_g, zq_h, zq_i, zq_j, zq_k, zq_l, zq_m, zq_n, zq_o, zq_p, zq_q, zq_r, zq_s, zq_t, zq_u, zq_v, zq_w, zq_x, zq_y, zq_z, zq_A, zq_B, zq_C, zq_D, zq_E, zq_F, zq_G, zq_H, zq_I, zq_J, zq_K, zq_L, ↓zq_M, ↓zq_N, ↓zq_O, ↓zq_P, ↓zq_Q, ↓zq_R, zq_S, zq_T, zq_U, zq_V, zq_W, zq_X, zq_Y, zq_Z, zq_0, zq_1, zq_2, zq_3, zq_4, zq_5, ↓zq_6, ↓zq_7, ↓zq_8, ↓zq_9, ↓zq_aa, zq_ab, zq_ac, zq_ad, zq_ae, zq_af, zq_ag, ↓zq_ah, ↓zq_ai, ↓zq_aj, zq_ak, ↓zq_al, ↓zq_am, e_b1, e_b2, x_o1, x_o2, c0, c1, q]
  · have q2 := h.resolve_left q
    simp [zq_a, zq_b, zq_c, zq_d, zq_e, zq_f, zq_g, zq_h, zq_i, zq_j, zq_k, zq_l, zq_m, zq_n, zq_o, zq_p, zq_q, zq_r, zq_s, zq_t, zq_u, zq_v, zq_w, zq_x, zq_y, zq_z, zq_A, zq_B, zq_C, zq_D, zq_E, zq_F, zq_G, zq_H, zq_I, zq_J, zq_K, zq_L, ↓zq_M, ↓zq_N, ↓zq_O, ↓zq_P, ↓zq_Q, ↓zq_R, zq_S, zq_T, zq_U, zq_V, zq_W, zq_X, zq_Y, zq_Z, zq_0, zq_1, zq_2, zq_3, zq_4, zq_5, ↓zq_6, ↓zq_7, ↓zq_8, ↓zq_9, ↓zq_aa, zq_ab, zq_ac, zq_ad, zq_ae, zq_af, zq_ag, ↓zq_ah, ↓zq_ai, ↓zq_aj, zq_ak, ↓zq_al, ↓zq_am, e_b1, e_b2, x_o1, x_o2, c0, c1, q, q2]
theorem h_143b {d i e j n x y u v : Int} {M : EM} (c0 : E_C 154 [8, d] M = some (x, M)) (c1 : E_C 154 [8, e] M = some (y, M)) (hx : x ≠ -1) (hy : y ≠ -1) (t1 : E_C 84 [x] M = some (u, M)) (t2 : E_C 84 [y] M = some (v, M)) (h : u ≠ 0 ∨ v ≠ 0) : E_C 143 [8, d, i, e, j, n] M = some (-11, M) := by
  have s0 : E_C 143 [8, d, i, e, j, n] M = e_tv E_C (E_V 143) e_t143_0 [8, d, i, e, j, n, 0, 0] M := r_ent (u := 143) (as := [8, d, i, e, j, n]) (M := M) (decide_eq_true c_this)
  rw [s0]
  unfold e_t143_0
  by_cases q : u = 0
  · have q2 : v ≠ 0 := h.resolve_left (fun e => e q)
    simp [zq_a, zq_b, zq_c, zq_d, zq_e, zq_f, zq_g, zq_h, zq_i, zq_j, zq_k, zq_l, zq_m, zq_n, zq_o, zq_p, zq_q, zq_r, zq_s, zq_t, zq_u, zq_v, zq_w, zq_x, zq_y, zq_z, zq_A, zq_B, zq_C, zq_D, zq_E, zq_F, zq_G, zq_H, zq_I, zq_J, zq_K, zq_L, ↓zq_M, ↓zq_N, ↓zq_O, ↓zq_P, ↓zq_Q, ↓zq_R, zq_S, zq_T, zq_U, zq_V, zq_W, zq_X, zq_Y, zq_Z, zq_0, zq_1, zq_2, zq_3, zq_4, zq_5, ↓zq_6, ↓zq_7, ↓zq_8, ↓zq_9, ↓zq_aa, zq_ab, zq_ac, zq_ad, zq_ae, zq_af, zq_ag, ↓zq_ah, ↓zq_ai, ↓zq_aj, zq_ak, ↓zq_al, ↓zq_am, e_b1, e_b2, x_o1, x_o2, c0, c1, hx, hy, t1, t2, q, q2]
  · simp [zq_a, zq_b, zq_c, zq_d, zq_e, zq_f, zq_g, zq_h, zq_i, zq_j, zq_k, zq_l, zq_m, zq_n, zq_o, zq_p, zq_q, zq_r, zq_s, zq_t, zq_u, zq_v, zq_w, zq_x, zq_y, zq_z, zq_A, zq_B, zq_C, zq_D, zq_E, zq_F, zq_G, zq_H, zq_I, zq_J, zq_K, zq_L, ↓zq_M, ↓zq_N, ↓zq_O, ↓zq_P, ↓zq_Q, ↓zq_R, zq_S, zq_T, zq_U, zq_V, zq_W, zq_X, zq_Y, zq_Z, zq_0, zq_1, zq_2, zq_3, zq_4, zq_5, ↓zq_6, ↓zq_7, ↓zq_8, ↓zq_9, ↓zq_aa, zq_ab, zq_ac, zq_ad, zq_ae, zq_af, zq_ag, ↓zq_ah, ↓zq_ai, ↓zq_aj, zq_ak, ↓zq_al, ↓zq_am, e_b1, e_b2, x_o1, x_o2, c0, c1, hx, hy, t1, t2, q]
theorem h_143c {d i e j n x y p p' s s' : Int} {M : EM} (c0 : E_C 154 [8, d] M = some (x, M)) (c1 : E_C 154 [8, e] M = some (y, M)) (hx : x ≠ -1) (hy : y ≠ -1) (t1 : E_C 84 [x] M = some (0, M)) (t2 : E_C 84 [y] M = some (0, M)) (f1 : e_gf 513 [x] M = some p) (f2 : e_gf 513 [y] M = some p') (f3 : e_gf 516 [x] M = some s) (f4 : e_gf 516 [y] M = some s') (h : p = 0 ∨ p' = 0 ∨ s ≠ s') : E_C 143 [8, d, i, e, j, n] M = some (-12, M) := by
  have s0 : E_C 143 [8, d, i, e, j, n] M = e_tv E_C (E_V 143) e_t143_0 [8, d, i, e, j, n, 0, 0] M := r_ent (u := 143) (as := [8, d, i, e, j, n]) (M := M) (decide_eq_true c_this)
  rw [s0]
  unfold e_t143_0
  by_cases q : p = 0
  · simp [zq_a, zq_b, zq_c, zq_d, zq_e, zq_f, zq_g, zq_h, zq_i, zq_j, zq_k, zq_l, zq_m, zq_n, zq_o, zq_p, zq_q, zq_r, zq_s, zq_t, zq_u, zq_v, zq_w, zq_x, zq_y, zq_z, zq_A, zq_B, zq_C, zq_D, zq_E, zq_F, zq_G, zq_H, zq_I, zq_J, zq_K, zq_L, ↓zq_M, ↓zq_N, ↓zq_O, ↓zq_P, ↓zq_Q, ↓zq_R, zq_S, zq_T, zq_U, zq_V, zq_W, zq_X, zq_Y, zq_Z, zq_0, zq_1, zq_2, zq_3, zq_4, zq_5, ↓zq_6, ↓zq_7, ↓zq_8, ↓zq_9, ↓zq_aa, zq_ab, zq_ac, zq_ad, zq_ae, zq_af, zq_ag, ↓zq_ah, ↓zq_ai, ↓zq_aj, zq_ak, ↓zq_al, ↓zq_am, e_b1, e_b2, x_o1, x_o2, c0, c1, hx, hy, t1, t2, f1, f2, q]
  · by_cases q2 : p' = 0
    · simp [zq_a, zq_b, zq_c, zq_d, zq_e, zq_f, zq_g, zq_h, zq_i, zq_j, zq_k, zq_l, zq_m, zq_n, zq_o, zq_p, zq_q, zq_r, zq_s, zq_t, zq_u, zq_v, zq_w, zq_x, zq_y, zq_z, zq_A, zq_B, zq_C, zq_D, zq_E, zq_F, zq_G, zq_H, zq_I, zq_J, zq_K, zq_L, ↓zq_M, ↓zq_N, ↓zq_O, ↓zq_P, ↓zq_Q, ↓zq_R, zq_S, zq_T, zq_U, zq_V, zq_W, zq_X, zq_Y, zq_Z, zq_0, zq_1, zq_2, zq_3, zq_4, zq_5, ↓zq_6, ↓zq_7, ↓zq_8, ↓zq_9, ↓zq_aa, zq_ab, zq_ac, zq_ad, zq_ae, zq_af, zq_ag, ↓zq_ah, ↓zq_ai, ↓zq_aj, zq_ak, ↓zq_al, ↓zq_am, e_b1, e_b2, x_o1, x_o2, c0, c1, hx, hy, t1, t2, f1, f2, q, q2]
    · have q3 : s ≠ s' := (h.resolve_left q).resolve_left q2
      simp [zq_a, zq_b, zq_c, zq_d, zq_e, zq_f, zq_g, zq_h, zq_i, zq_j, zq_k, zq_l, zq_m, zq_n, zq_o, zq_p, zq_q, zq_r, zq_s, zq_t, zq_u, zq_v, zq_w, zq_x, zq_y, zq_z, zq_A, zq_B, zq_C, zq_D, zq_E, zq_F, zq_G, zq_H, zq_I, zq_J, zq_K, zq_L, ↓zq_M, ↓zq_N, ↓zq_O, ↓zq_P, ↓zq_Q, ↓zq_R, zq_S, zq_T, zq_U, zq_V, zq_W, zq_X, zq_Y, zq_Z, zq_0, zq_1, zq_2, zq_3, zq_4, zq_5, ↓zq_6, ↓zq_7, ↓zq_8, ↓zq_9, ↓zq_aa, zq_ab, zq_ac, zq_ad, zq_ae, zq_af, zq_ag, ↓zq_ah, ↓zq_ai, ↓zq_aj, zq_ak, ↓zq_al, ↓zq_am, e_b1, e_b2, x_o1, x_o2, c0, c1, hx, hy, t1, t2, f1, f2, f3, f4, q, q2, q3]
theorem h_143d {d i e j n x y p p' s g g' : Int} {M : EM} (c0 : E_C 154 [8, d] M = some (x, M)) (c1 : E_C 154 [8, e] M = some (y, M)) (hx : x ≠ -1) (hy : y ≠ -1) (t1 : E_C 84 [x] M = some (0, M)) (t2 : E_C 84 [y] M = some (0, M)) (f1 : e_gf 513 [x] M = some p) (f2 : e_gf 513 [y] M = some p') (f3 : e_gf 516 [x] M = some s) (f4 : e_gf 516 [y] M = some s) (hp : p ≠ 0) (hp' : p' ≠ 0) (g1 : E_C 90 [x, i, n] M = some (g, M)) (g2 : E_C 90 [y, j, n] M = some (g', M)) (h : g = 0 ∨ g' = 0) : E_C 143 [8, d, i, e, j, n] M = some (-13, M) := by
  have s0 : E_C 143 [8, d, i, e, j, n] M = e_tv E_C (E_V 143) e_t143_0 [8, d, i, e, j, n, 0, 0] M := r_ent (u := 143) (as := [8, d, i, e, j, n]) (M := M) (decide_eq_true c_this)
  rw [s0]
  unfold e_t143_0
  by_cases q : g = 0
  · simp [zq_a, zq_b, zq_c, zq_d, zq_e, zq_f, zq_g, zq_h, zq_i, zq_j, zq_k, zq_l, zq_m, zq_n, zq_o, zq_p, zq_q, zq_r, zq_s, zq_t, zq_u, zq_v, zq_w, zq_x, zq_y, zq_z, zq_A, zq_B, zq_C, zq_D, zq_E, zq_F, zq_G, zq_H, zq_I, zq_J, zq_K, zq_L, ↓zq_M, ↓zq_N, ↓zq_O, ↓zq_P, ↓zq_Q, ↓zq_R, zq_S, zq_T, zq_U, zq_V, zq_W, zq_X, zq_Y, zq_Z, zq_0, zq_1, zq_2, zq_3, zq_4, zq_5, ↓zq_6, ↓zq_7, ↓zq_8, ↓zq_9, ↓zq_aa, zq_ab, zq_ac, zq_ad, zq_ae, zq_af, zq_ag, ↓zq_ah, ↓zq_ai, ↓zq_aj, zq_ak, ↓zq_al, ↓zq_am, e_b1, e_b2, x_o1, x_o2, c0, c1, hx, hy, t1, t2, f1, f2, f3, f4, hp, hp', g1, g2, q]
  · have q2 := h.resolve_left q
    simp [zq_a, zq_b, zq_c, zq_d, zq_e, zq_f, zq_g, zq_h, zq_i, zq_j, zq_k, zq_l, zq_m, zq_n, zq_o, zq_p, zq_q, zq_r, zq_s, zq_t, zq_u, zq_v, zq_w, zq_x, zq_y, zq_z, zq_A, zq_B, zq_C, zq_D, zq_E, zq_F, zq_G, zq_H, zq_I, zq_J, zq_K, zq_L, ↓zq_M, ↓zq_N, ↓zq_O, ↓zq_P, ↓zq_Q, ↓zq_R, zq_S, zq_T, zq_U, zq_V, zq_W, zq_X, zq_Y, zq_Z, zq_0, zq_1, zq_2, zq_3, zq_4, zq_5, ↓zq_6, ↓zq_7, ↓zq_8, ↓zq_9, ↓zq_aa, zq_ab, zq_ac, zq_ad, zq_ae, zq_af, zq_ag, ↓zq_ah, ↓zq_ai, ↓zq_aj, zq_ak, ↓zq_al, ↓zq_am, e_b1, e_b2, x_o1, x_o2, c0, c1, hx, hy, t1, t2, f1, f2, f3, f4, hp, hp', g1, g2, q, q2]
theorem h_143e {d i e j n x y x' y' p p' s g g' : Int} {M M1 : EM} (c0 : E_C 154 [8, d] M = some (x, M)) (c1 : E_C 154 [8, e] M = some (y, M)) (hx : x ≠ -1) (hy : y ≠ -1) (t1 : E_C 84 [x] M = some (0, M)) (t2 : E_C 84 [y] M = some (0, M)) (f1 : e_gf 513 [x] M = some p) (f2 : e_gf 513 [y] M = some p') (f3 : e_gf 516 [x] M = some s) (f4 : e_gf 516 [y] M = some s) (hp : p ≠ 0) (hp' : p' ≠ 0) (g1 : E_C 90 [x, i, n] M = some (g, M)) (g2 : E_C 90 [y, j, n] M = some (g', M)) (hg : g ≠ 0) (hg' : g' ≠ 0) (f5 : e_gf 518 [x] M = some x') (f6 : e_gf 518 [y] M = some y') (k : e_cp [x', i, y', j, n] M = some M1) : E_C 143 [8, d, i, e, j, n] M = some (n, M1) := by
  have s0 : E_C 143 [8, d, i, e, j, n] M = e_tv E_C (E_V 143) e_t143_0 [8, d, i, e, j, n, 0, 0] M := r_ent (u := 143) (as := [8, d, i, e, j, n]) (M := M) (decide_eq_true c_this)
  rw [s0]
  unfold e_t143_0
  simp [zq_a, zq_b, zq_c, zq_d, zq_e, zq_f, zq_g, zq_h, zq_i, zq_j, zq_k, zq_l, zq_m, zq_n, zq_o, zq_p, zq_q, zq_r, zq_s, zq_t, zq_u, zq_v, zq_w, zq_x, zq_y, zq_z, zq_A, zq_B, zq_C, zq_D, zq_E, zq_F, zq_G, zq_H, zq_I, zq_J, zq_K, zq_L, ↓zq_M, ↓zq_N, ↓zq_O, ↓zq_P, ↓zq_Q, ↓zq_R, zq_S, zq_T, zq_U, zq_V, zq_W, zq_X, zq_Y, zq_Z, zq_0, zq_1, zq_2, zq_3, zq_4, zq_5, ↓zq_6, ↓zq_7, ↓zq_8, ↓zq_9, ↓zq_aa, zq_ab, zq_ac, zq_ad, zq_ae, zq_af, zq_ag, ↓zq_ah, ↓zq_ai, ↓zq_aj, zq_ak, ↓zq_al, ↓zq_am, e_b1, e_b2, x_o1, x_o2, c0, c1, hx, hy, t1, t2, f1, f2, f3, f4, hp, hp', g1, g2, hg, hg', f5, f6, k]
theorem h_262a {d i e j n a c : Int} {M : EM} (c0 : E_C 173 [d] M = some (a, M)) (c1 : E_C 173 [e] M = some (c, M)) (h : a = 0 ∨ c = 0) : E_C 262 [192, d, i, e, j, n] M = some (-1, M) := by
  rw [r_ent (show e_rok 262 [192, d, i, e, j, n] = true from decide_eq_true r_ref)]
  show e_tv E_C (E_V 262) e_t262_0 [192, d, i, e, j, n, 0, 0] M = _
  unfold e_t262_0
  by_cases q : a = 0
  · simp [zq_a, zq_b, zq_c, zq_d, zq_e, zq_f, zq_g, zq_h, zq_i, zq_j, zq_k, zq_l, zq_m, zq_n, zq_o, zq_p, zq_q, zq_r, zq_s, zq_t, zq_u, zq_v, zq_w, zq_x, zq_y, zq_z, zq_A, zq_B, zq_C, zq_D, zq_E, zq_F, zq_G, zq_H, zq_I, zq_J, zq_K, zq_L, ↓zq_M, ↓zq_N, ↓zq_O, ↓zq_P, ↓zq_Q, ↓zq_R, zq_S, zq_T, zq_U, zq_V, zq_W, zq_X, zq_Y, zq_Z, zq_0, zq_1, zq_2, zq_3, zq_4, zq_5, ↓zq_6, ↓zq_7, ↓zq_8, ↓zq_9, ↓zq_aa, zq_ab, zq_ac, zq_ad, zq_ae, zq_af, zq_ag, ↓zq_ah, ↓zq_ai, ↓zq_aj, zq_ak, ↓zq_al, ↓zq_am, e_b1, e_b2, x_o1, x_o2, c0, c1, q]
  · have q2 := h.resolve_left q
    simp [zq_a, zq_b, zq_c, zq_d, zq_e, zq_f, zq_g, zq_h, zq_i, zq_j, zq_k, zq_l, zq_m, zq_n, zq_o, zq_p, zq_q, zq_r, zq_s, zq_t, zq_u, zq_v, zq_w, zq_x, zq_y, zq_z, zq_A, zq_B, zq_C, zq_D, zq_E, zq_F, zq_G, zq_H, zq_I, zq_J, zq_K, zq_L, ↓zq_M, ↓zq_N, ↓zq_O, ↓zq_P, ↓zq_Q, ↓zq_R, zq_S, zq_T, zq_U, zq_V, zq_W, zq_X, zq_Y, zq_Z, zq_0, zq_1, zq_2, zq_3, zq_4, zq_5, ↓zq_6, ↓zq_7, ↓zq_8, ↓zq_9, ↓zq_aa, zq_ab, zq_ac, zq_ad, zq_ae, zq_af, zq_ag, ↓zq_ah, ↓zq_ai, ↓zq_aj, zq_ak, ↓zq_al, ↓zq_am, e_b1, e_b2, x_o1, x_o2, c0, c1, q, q2]
theorem h_262b {d i e j n a c : Int} {M : EM} (c0 : E_C 173 [d] M = some (1, M)) (c1 : E_C 173 [e] M = some (1, M)) (l1 : e_op 60 [195, d] M = some a) (l2 : e_op 60 [195, e] M = some c) (h : a = 0 ∨ c = 0) : E_C 262 [192, d, i, e, j, n] M = some (-11, M) := by
  rw [r_ent (show e_rok 262 [192, d, i, e, j, n] = true from decide_eq_true r_ref)]
  show e_tv E_C (E_V 262) e_t262_0 [192, d, i, e, j, n, 0, 0] M = _
  unfold e_t262_0
  by_cases q : a = 0
  · simp [zq_a, zq_b, zq_c, zq_d, zq_e, zq_f, zq_g, zq_h, zq_i, zq_j, zq_k, zq_l, zq_m, zq_n, zq_o, zq_p, zq_q, zq_r, zq_s, zq_t, zq_u, zq_v, zq_w, zq_x, zq_y, zq_z, zq_A, zq_B, zq_C, zq_D, zq_E, zq_F, zq_G, zq_H, zq_I, zq_J, zq_K, zq_L, ↓zq_M, ↓zq_N, ↓zq_O, ↓zq_P, ↓zq_Q, ↓zq_R, zq_S, zq_T, zq_U, zq_V, zq_W, zq_X, zq_Y, zq_Z, zq_0, zq_1, zq_2, zq_3, zq_4, zq_5, ↓zq_6, ↓zq_7, ↓zq_8, ↓zq_9, ↓zq_aa, zq_ab, zq_ac, zq_ad, zq_ae, zq_af, zq_ag, ↓zq_ah, ↓zq_ai, ↓zq_aj, zq_ak, ↓zq_al, ↓zq_am, e_b1, e_b2, x_o1, x_o2, r_O2, c0, c1, l1, l2, q]
  · have q2 := h.resolve_left q
    simp [zq_a, zq_b, zq_c, zq_d, zq_e, zq_f, zq_g, zq_h, zq_i, zq_j, zq_k, zq_l, zq_m, zq_n, zq_o, zq_p, zq_q, zq_r, zq_s, zq_t, zq_u, zq_v, zq_w, zq_x, zq_y, zq_z, zq_A, zq_B, zq_C, zq_D, zq_E, zq_F, zq_G, zq_H, zq_I, zq_J, zq_K, zq_L, ↓zq_M, ↓zq_N, ↓zq_O, ↓zq_P, ↓zq_Q, ↓zq_R, zq_S, zq_T, zq_U, zq_V, zq_W, zq_X, zq_Y, zq_Z, zq_0, zq_1, zq_2, zq_3, zq_4, zq_5, ↓zq_6, ↓zq_7, ↓zq_8, ↓zq_9, ↓zq_aa, zq_ab, zq_ac, zq_ad, zq_ae, zq_af, zq_ag, ↓zq_ah, ↓zq_ai, ↓zq_aj, zq_ak, ↓zq_al, ↓zq_am, e_b1, e_b2, x_o1, x_o2, r_O2, c0, c1, l1, l2, q, q2]
theorem h_262c {d i e j n a c s s' : Int} {M : EM} (c0 : E_C 173 [d] M = some (1, M)) (c1 : E_C 173 [e] M = some (1, M)) (l1 : e_op 60 [195, d] M = some a) (l2 : e_op 60 [195, e] M = some c) (ha : a ≠ 0) (hc : c ≠ 0) (l3 : e_op 60 [196, d] M = some s) (l4 : e_op 60 [196, e] M = some s') (h : a ≠ 2 ∨ c ≠ 2 ∨ s ≠ s') : E_C 262 [192, d, i, e, j, n] M = some (-12, M) := by
  rw [r_ent (show e_rok 262 [192, d, i, e, j, n] = true from decide_eq_true r_ref)]
  show e_tv E_C (E_V 262) e_t262_0 [192, d, i, e, j, n, 0, 0] M = _
  unfold e_t262_0
  by_cases q : a = 2
  · by_cases q2 : c = 2
    · have q3 : s ≠ s' := (h.resolve_left (fun h => h q)).resolve_left (fun h => h q2)
      simp [zq_a, zq_b, zq_c, zq_d, zq_e, zq_f, zq_g, zq_h, zq_i, zq_j, zq_k, zq_l, zq_m, zq_n, zq_o, zq_p, zq_q, zq_r, zq_s, zq_t, zq_u, zq_v, zq_w, zq_x, zq_y, zq_z, zq_A, zq_B, zq_C, zq_D, zq_E, zq_F, zq_G, zq_H, zq_I, zq_J, zq_K, zq_L, ↓zq_M, ↓zq_N, ↓zq_O, ↓zq_P, ↓zq_Q, ↓zq_R, zq_S, zq_T, zq_U, zq_V, zq_W, zq_X, zq_Y, zq_Z, zq_0, zq_1, zq_2, zq_3, zq_4, zq_5, ↓zq_6, ↓zq_7, ↓zq_8, ↓zq_9, ↓zq_aa, zq_ab, zq_ac, zq_ad, zq_ae, zq_af, zq_ag, ↓zq_ah, ↓zq_ai, ↓zq_aj, zq_ak, ↓zq_al, ↓zq_am, e_b1, e_b2, x_o1, x_o2, r_O2, r_O3, c0, c1, l1, l2, l3, l4, q, q2, q3]
    · simp [zq_a, zq_b, zq_c, zq_d, zq_e, zq_f, zq_g, zq_h, zq_i, zq_j, zq_k, zq_l, zq_m, zq_n, zq_o, zq_p, zq_q, zq_r, zq_s, zq_t, zq_u, zq_v, zq_w, zq_x, zq_y, zq_z, zq_A, zq_B, zq_C, zq_D, zq_E, zq_F, zq_G, zq_H, zq_I, zq_J, zq_K, zq_L, ↓zq_M, ↓zq_N, ↓zq_O, ↓zq_P, ↓zq_Q, ↓zq_R, zq_S, zq_T, zq_U, zq_V, zq_W, zq_X, zq_Y, zq_Z, zq_0, zq_1, zq_2, zq_3, zq_4, zq_5, ↓zq_6, ↓zq_7, ↓zq_8, ↓zq_9, ↓zq_aa, zq_ab, zq_ac, zq_ad, zq_ae, zq_af, zq_ag, ↓zq_ah, ↓zq_ai, ↓zq_aj, zq_ak, ↓zq_al, ↓zq_am, e_b1, e_b2, x_o1, x_o2, r_O2, r_O3, c0, c1, l1, l2, hc, q, q2]
  · simp [zq_a, zq_b, zq_c, zq_d, zq_e, zq_f, zq_g, zq_h, zq_i, zq_j, zq_k, zq_l, zq_m, zq_n, zq_o, zq_p, zq_q, zq_r, zq_s, zq_t, zq_u, zq_v, zq_w, zq_x, zq_y, zq_z, zq_A, zq_B, zq_C, zq_D, zq_E, zq_F, zq_G, zq_H, zq_I, zq_J, zq_K, zq_L, ↓zq_M, ↓zq_N, ↓zq_O, ↓zq_P, ↓zq_Q, ↓zq_R, zq_S, zq_T, zq_U, zq_V, zq_W, zq_X, zq_Y, zq_Z, zq_0, zq_1, zq_2, zq_3, zq_4, zq_5, ↓zq_6, ↓zq_7, ↓zq_8, ↓zq_9, ↓zq_aa, zq_ab, zq_ac, zq_ad, zq_ae, zq_af, zq_ag, ↓zq_ah, ↓zq_ai, ↓zq_aj, zq_ak, ↓zq_al, ↓zq_am, e_b1, e_b2, x_o1, x_o2, r_O2, r_O3, c0, c1, l1, l2, ha, hc, q]
theorem h_262d {d i e j n s z z' a c : Int} {M : EM} (c0 : E_C 173 [d] M = some (1, M)) (c1 : E_C 173 [e] M = some (1, M)) (l1 : e_op 60 [195, d] M = some 2) (l2 : e_op 60 [195, e] M = some 2) (l3 : e_op 60 [196, d] M = some s) (l4 : e_op 60 [196, e] M = some s) (l5 : e_op 60 [197, d] M = some z) (l6 : e_op 60 [197, e] M = some z') (w1 : 0 ≤ i → e_w (z - i) = a) (w2 : 0 ≤ j → e_w (z' - j) = c) (h : ¬ (0 ≤ n ∧ 0 ≤ i ∧ 0 ≤ j ∧ n ≤ a ∧ n ≤ c)) : E_C 262 [192, d, i, e, j, n] M = some (-13, M) := by
  rw [r_ent (show e_rok 262 [192, d, i, e, j, n] = true from decide_eq_true r_ref)]
  show e_tv E_C (E_V 262) e_t262_0 [192, d, i, e, j, n, 0, 0] M = _
  unfold e_t262_0
  rcases x_le 0 n with ⟨q1, q1_n⟩ | ⟨q1, q1_n⟩
  · rcases x_le 0 i with ⟨q2, q2_n⟩ | ⟨q2, q2_n⟩
    · have w1 := w1 q2
      rcases x_le 0 j with ⟨q3, q3_n⟩ | ⟨q3, q3_n⟩
      · have w2 := w2 q3
        rcases x_le n a with ⟨q4, q4_n⟩ | ⟨q4, q4_n⟩
        · have q5 : ¬ n ≤ c := fun e => h ⟨q1, q2, q3, q4, e⟩
          have q5_n : c < n := by
            clear w1 w2
            omega
          simp [zq_a, zq_b, zq_c, zq_d, zq_e, zq_f, zq_g, zq_h, zq_i, zq_j, zq_k, zq_l, zq_m, zq_n, zq_o, zq_p, zq_q, zq_r, zq_s, zq_t, zq_u, zq_v, zq_w, zq_x, zq_y, zq_z, zq_A, zq_B, zq_C, zq_D, zq_E, zq_F, zq_G, zq_H, zq_I, zq_J, zq_K, zq_L, ↓zq_M, ↓zq_N, ↓zq_O, ↓zq_P, ↓zq_Q, ↓zq_R, zq_S, zq_T, zq_U, zq_V, zq_W, zq_X, zq_Y, zq_Z, zq_0, zq_1, zq_2, zq_3, zq_4, zq_5, ↓zq_6, ↓zq_7, ↓zq_8, ↓zq_9, ↓zq_aa, zq_ab, zq_ac, zq_ad, zq_ae, zq_af, zq_ag, ↓zq_ah, ↓zq_ai, ↓zq_aj, zq_ak, ↓zq_al, ↓zq_am, e_b1, e_b2, x_o1, x_o2, r_O2, r_O3, r_O4, c0, c1, l1, l2, l3, l4, l5, l6, w1, w2, q1, q1_n, q2, q2_n, q3, q3_n, q4, q4_n, q5, q5_n]
        · simp [zq_a, zq_b, zq_c, zq_d, zq_e, zq_f, zq_g, zq_h, zq_i, zq_j, zq_k, zq_l, zq_m, zq_n, zq_o, zq_p, zq_q, zq_r, zq_s, zq_t, zq_u, zq_v, zq_w, zq_x, zq_y, zq_z, zq_A, zq_B, zq_C, zq_D, zq_E, zq_F, zq_G, zq_H, zq_I, zq_J, zq_K, zq_L, ↓zq_M, ↓zq_N, ↓zq_O, ↓zq_P, ↓zq_Q, ↓zq_R, zq_S, zq_T, zq_U, zq_V, zq_W, zq_X, zq_Y, zq_Z, zq_0, zq_1, zq_2, zq_3, zq_4, zq_5, ↓zq_6, ↓zq_7, ↓zq_8, ↓zq_9, ↓zq_aa, zq_ab, zq_ac, zq_ad, zq_ae, zq_af, zq_ag, ↓zq_ah, ↓zq_ai, ↓zq_aj, zq_ak, ↓zq_al, ↓zq_am, e_b1, e_b2, x_o1, x_o2, r_O2, r_O3, r_O4, c0, c1, l1, l2, l3, l4, l5, l6, w1, w2, q1, q1_n, q2, q2_n, q3, q3_n, q4, q4_n]
      · simp [zq_a, zq_b, zq_c, zq_d, zq_e, zq_f, zq_g, zq_h, zq_i, zq_j, zq_k, zq_l, zq_m, zq_n, zq_o, zq_p, zq_q, zq_r, zq_s, zq_t, zq_u, zq_v, zq_w, zq_x, zq_y, zq_z, zq_A, zq_B, zq_C, zq_D, zq_E, zq_F, zq_G, zq_H, zq_I, zq_J, zq_K, zq_L, ↓zq_M, ↓zq_N, ↓zq_O, ↓zq_P, ↓zq_Q, ↓zq_R, zq_S, zq_T, zq_U, zq_V, zq_W, zq_X, zq_Y, zq_Z, zq_0, zq_1, zq_2, zq_3, zq_4, zq_5, ↓zq_6, ↓zq_7, ↓zq_8, ↓zq_9, ↓zq_aa, zq_ab, zq_ac, zq_ad, zq_ae, zq_af, zq_ag, ↓zq_ah, ↓zq_ai, ↓zq_aj, zq_ak, ↓zq_al, ↓zq_am, e_b1, e_b2, x_o1, x_o2, r_O2, r_O3, r_O4, c0, c1, l1, l2, l3, l4, l5, l6, q1, q1_n, q2, q2_n, q3, q3_n]
    · simp [zq_a, zq_b, zq_c, zq_d, zq_e, zq_f, zq_g, zq_h, zq_i, zq_j, zq_k, zq_l, zq_m, zq_n, zq_o, zq_p, zq_q, zq_r, zq_s, zq_t, zq_u, zq_v, zq_w, zq_x, zq_y, zq_z, zq_A, zq_B, zq_C, zq_D, zq_E, zq_F, zq_G, zq_H, zq_I, zq_J, zq_K, zq_L, ↓zq_M, ↓zq_N, ↓zq_O, ↓zq_P, ↓zq_Q, ↓zq_R, zq_S, zq_T, zq_U, zq_V, zq_W, zq_X, zq_Y, zq_Z, zq_0, zq_1, zq_2, zq_3, zq_4, zq_5, ↓zq_6, ↓zq_7, ↓zq_8, ↓zq_9, ↓zq_aa, zq_ab, zq_ac, zq_ad, zq_ae, zq_af, zq_ag, ↓zq_ah, ↓zq_ai, ↓zq_aj, zq_ak, ↓zq_al, ↓zq_am, e_b1, e_b2, x_o1, x_o2, r_O2, r_O3, r_O4, c0, c1, l1, l2, l3, l4, l5, l6, q1, q1_n, q2, q2_n]
  · simp [zq_a, zq_b, zq_c, zq_d, zq_e, zq_f, zq_g, zq_h, zq_i, zq_j, zq_k, zq_l, zq_m, zq_n, zq_o, zq_p, zq_q, zq_r, zq_s, zq_t, zq_u, zq_v, zq_w, zq_x, zq_y, zq_z, zq_A, zq_B, zq_C, zq_D, zq_E, zq_F, zq_G, zq_H, zq_I, zq_J, zq_K, zq_L, ↓zq_M, ↓zq_N, ↓zq_O, ↓zq_P, ↓zq_Q, ↓zq_R, zq_S, zq_T, zq_U, zq_V, zq_W, zq_X, zq_Y, zq_Z, zq_0, zq_1, zq_2, zq_3, zq_4, zq_5, ↓zq_6, ↓zq_7, ↓zq_8, ↓zq_9, ↓zq_aa, zq_ab, zq_ac, zq_ad, zq_ae, zq_af, zq_ag, ↓zq_ah, ↓zq_ai, ↓zq_aj, zq_ak, ↓zq_al, ↓zq_am, e_b1, e_b2, x_o1, x_o2, r_O2, r_O3, r_O4, c0, c1, l1, l2, l3, l4, l5, l6, q1, q1_n]
theorem h_262e {d i e j n s z z' a c : Int} {M : EM} {o : EO} (c0 : E_C 173 [d] M = some (1, M)) (c1 : E_C 173 [e] M = some (1, M)) (l1 : e_op 60 [195, d] M = some 2) (l2 : e_op 60 [195, e] M = some 2) (l3 : e_op 60 [196, d] M = some s) (l4 : e_op 60 [196, e] M = some s) (l5 : e_op 60 [197, d] M = some z) (l6 : e_op 60 [197, e] M = some z') (w1 : e_w (z - i) = a) (w2 : e_w (z' - j) = c) (q1 : 0 ≤ n) (q2 : 0 ≤ i) (q3 : 0 ≤ j) (q4 : n ≤ a) (q5 : n ≤ c) (k : E_V 262 122 [192, d, i, e, j, n, 0, 0] M = o) : E_C 262 [192, d, i, e, j, n] M = o := by
  have q1_n : ¬ n < 0 := by clear w1 w2; omega
  have q2_n : ¬ i < 0 := by clear w1 w2; omega
  have q3_n : ¬ j < 0 := by clear w1 w2; omega
  have q4_n : ¬ a < n := by clear w1 w2; omega
  have q5_n : ¬ c < n := by clear w1 w2; omega
  rw [r_ent (show e_rok 262 [192, d, i, e, j, n] = true from decide_eq_true r_ref)]
  show e_tv E_C (E_V 262) e_t262_0 [192, d, i, e, j, n, 0, 0] M = _
  unfold e_t262_0
  simp [zq_a, zq_b, zq_c, zq_d, zq_e, zq_f, zq_g, zq_h, zq_i, zq_j, zq_k, zq_l, zq_m, zq_n, zq_o, zq_p, zq_q, zq_r, zq_s, zq_t, zq_u, zq_v, zq_w, zq_x, zq_y, zq_z, zq_A, zq_B, zq_C, zq_D, zq_E, zq_F, zq_G, zq_H, zq_I, zq_J, zq_K, zq_L, ↓zq_M, ↓zq_N, ↓zq_O, ↓zq_P, ↓zq_Q, ↓zq_R, zq_S, zq_T, zq_U, zq_V, zq_W, zq_X, zq_Y, zq_Z, zq_0, zq_1, zq_2, zq_3, zq_4, zq_5, ↓zq_6, ↓zq_7, ↓zq_8, ↓zq_9, ↓zq_aa, zq_ab, zq_ac, zq_ad, zq_ae, zq_af, zq_ag, ↓zq_ah, ↓zq_ai, ↓zq_aj, zq_ak, ↓zq_al, ↓zq_am, e_b1, e_b2, x_o1, x_o2, r_O2, r_O3, r_O4, c0, c1, l1, l2, l3, l4, l5, l6, w1, w2, q1, q1_n, q2, q2_n, q3, q3_n, q4, q4_n, q5, q5_n, k]
theorem h_262s {d i e j n q y t ia ib v b1 b2 b3 b4 q' n1 : Int} {na : Nat} {M : EM} (h : q < n) (wn : e_w (n - 1) = n1) (ht : t = if j < i then q else e_w (n1 - q)) (w1 : e_w (120 * e) = b1) (w2 : e_w (b1 + j) = b2) (w3 : e_w (b2 + t) = ib) (w4 : e_w (120 * d) = b3) (w5 : e_w (b3 + i) = b4) (w6 : e_w (b4 + t) = ia) (w7 : e_w (q + 1) = q') (l : e_op 60 [198, ia] M = some v) (st : e_st 100 [198, ib, v] M = some (e_up M 198 na v)) : E_V 262 122 [192, d, i, e, j, n, q, y] M = E_V 262 122 [192, d, i, e, j, n, q', t] (e_up M 198 na v) := by
  rw [E_V_eq]
  show e_tv E_C (E_V 262) e_t262_122 [192, d, i, e, j, n, q, y] M = _
  unfold e_t262_122
  rcases x_lt j i with ⟨c, c_n⟩ | ⟨c, c_n⟩
  · rw [if_pos c] at ht
    subst ht
    simp [zq_a, zq_b, zq_c, zq_d, zq_e, zq_f, zq_g, zq_h, zq_i, zq_j, zq_k, zq_l, zq_m, zq_n, zq_o, zq_p, zq_q, zq_r, zq_s, zq_t, zq_u, zq_v, zq_w, zq_x, zq_y, zq_z, zq_A, zq_B, zq_C, zq_D, zq_E, zq_F, zq_G, zq_H, zq_I, zq_J, zq_K, zq_L, ↓zq_M, ↓zq_N, ↓zq_O, ↓zq_P, ↓zq_Q, ↓zq_R, zq_S, zq_T, zq_U, zq_V, zq_W, zq_X, zq_Y, zq_Z, zq_0, zq_1, zq_2, zq_3, zq_4, zq_5, ↓zq_6, ↓zq_7, ↓zq_8, ↓zq_9, ↓zq_aa, zq_ab, zq_ac, zq_ad, zq_ae, zq_af, zq_ag, ↓zq_ah, ↓zq_ai, ↓zq_aj, zq_ak, ↓zq_al, ↓zq_am, e_b1, e_b2, x_o1, x_o2, r_O5, h, c, c_n, w1, w2, w3, w4, w5, w6, w7, l, st]
  · rw [if_neg c] at ht
    subst ht
    simp [zq_a, zq_b, zq_c, zq_d, zq_e, zq_f, zq_g, zq_h, zq_i, zq_j, zq_k, zq_l, zq_m, zq_n, zq_o, zq_p, zq_q, zq_r, zq_s, zq_t, zq_u, zq_v, zq_w, zq_x, zq_y, zq_z, zq_A, zq_B, zq_C, zq_D, zq_E, zq_F, zq_G, zq_H, zq_I, zq_J, zq_K, zq_L, ↓zq_M, ↓zq_N, ↓zq_O, ↓zq_P, ↓zq_Q, ↓zq_R, zq_S, zq_T, zq_U, zq_V, zq_W, zq_X, zq_Y, zq_Z, zq_0, zq_1, zq_2, zq_3, zq_4, zq_5, ↓zq_6, ↓zq_7, ↓zq_8, ↓zq_9, ↓zq_aa, zq_ab, zq_ac, zq_ad, zq_ae, zq_af, zq_ag, ↓zq_ah, ↓zq_ai, ↓zq_aj, zq_ak, ↓zq_al, ↓zq_am, e_b1, e_b2, x_o1, x_o2, r_O5, h, wn, c, c_n, w1, w2, w3, w4, w5, w6, w7, l, st]
theorem h_262z {d i e j n y : Int} {M : EM} : E_V 262 122 [192, d, i, e, j, n, n, y] M = some (n, M) := by
  rw [E_V_eq]
  show e_tv E_C (E_V 262) e_t262_122 [192, d, i, e, j, n, n, y] M = _
  unfold e_t262_122
  simp [zq_a, zq_b, zq_c, zq_d, zq_e, zq_f, zq_g, zq_h, zq_i, zq_j, zq_k, zq_l, zq_m, zq_n, zq_o, zq_p, zq_q, zq_r, zq_s, zq_t, zq_u, zq_v, zq_w, zq_x, zq_y, zq_z, zq_A, zq_B, zq_C, zq_D, zq_E, zq_F, zq_G, zq_H, zq_I, zq_J, zq_K, zq_L, ↓zq_M, ↓zq_N, ↓zq_O, ↓zq_P, ↓zq_Q, ↓zq_R, zq_S, zq_T, zq_U, zq_V, zq_W, zq_X, zq_Y, zq_Z, zq_0, zq_1, zq_2, zq_3, zq_4, zq_5, ↓zq_6, ↓zq_7, ↓zq_8, ↓zq_9, ↓zq_aa, zq_ab, zq_ac, zq_ad, zq_ae, zq_af, zq_ag, ↓zq_ah, ↓zq_ai, ↓zq_aj, zq_ak, ↓zq_al, ↓zq_am, e_b1, e_b2, x_o1, x_o2]
end
