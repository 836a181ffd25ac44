section
/-! members join: exactly -/
def w_mh (K k : Int) : Prop := (K = 1 ∧ k = 0) ∨ (K = 2 ∧ (k = 0 ∨ k = 1)) ∨ (K = 3 ∧ k ≠ 3)
theorem w_54 {K k : Int} (M : EM) : (w_mh K k → E_C 54 [K, k] M = some (1, M)) ∧ (¬ w_mh K k → E_C 54 [K, k] M = some (0, M)) := by
  have s0 : E_C 54 [K, k] M = e_tv E_C (E_V 54) e_t54_0 [K, k] M := r_ent (u := 54) (as := [K, k]) (M := M) rfl
  rw [s0]
  unfold e_t54_0 w_mh
  by_cases a1 : K = 1
  · by_cases b0 : k = 0
    · refine ⟨fun _ => ?_, fun h => by omega⟩
      simp [zq_a, zq_b, zq_c, zq_d, zq_e, zq_f, zq_g, zq_h, zq_i, zq_j, zq_k, zq_l, zq_m, zq_n, zq_o, zq_p, zq_q, zq_r, zq_s, zq_t, zq_u, zq_v, zq_w, zq_x, zq_y, zq_z, zq_A, zq_B, zq_C, zq_D, zq_E, zq_F, zq_G, zq_H, zq_I, zq_J, zq_K, zq_L, ↓zq_M, ↓zq_N, ↓zq_O, ↓zq_P, ↓zq_Q, ↓zq_R, zq_S, zq_T, zq_U, zq_V, zq_W, zq_X, zq_Y, zq_Z, zq_0, zq_1, zq_2, zq_3, zq_4, zq_5, ↓zq_6, ↓zq_7, ↓zq_8, ↓zq_9, ↓zq_aa, zq_ab, zq_ac, zq_ad, zq_ae, zq_af, zq_ag, ↓zq_ah, ↓zq_ai, ↓zq_aj, zq_ak, ↓zq_al, ↓zq_am, e_b1, e_b2, x_o1, x_o2, a1, b0]
    · refine ⟨fun h => by omega, fun _ => ?_⟩
      simp [zq_a, zq_b, zq_c, zq_d, zq_e, zq_f, zq_g, zq_h, zq_i, zq_j, zq_k, zq_l, zq_m, zq_n, zq_o, zq_p, zq_q, zq_r, zq_s, zq_t, zq_u, zq_v, zq_w, zq_x, zq_y, zq_z, zq_A, zq_B, zq_C, zq_D, zq_E, zq_F, zq_G, zq_H, zq_I, zq_J, zq_K, zq_L, ↓zq_M, ↓zq_N, ↓zq_O, ↓zq_P, ↓zq_Q, ↓zq_R, zq_S, zq_T, zq_U, zq_V, zq_W, zq_X, zq_Y, zq_Z, zq_0, zq_1, zq_2, zq_3, zq_4, zq_5, ↓zq_6, ↓zq_7, ↓zq_8, ↓zq_9, ↓zq_aa, zq_ab, zq_ac, zq_ad, zq_ae, zq_af, zq_ag, ↓zq_ah, ↓zq_ai, ↓zq_aj, zq_ak, ↓zq_al, ↓zq_am, e_b1, e_b2, x_o1, x_o2, a1, b0]
  by_cases a2 : K = 2
  · by_cases b0 : k = 0
    · refine ⟨fun _ => ?_, fun h => by omega⟩
      simp [zq_a, zq_b, zq_c, zq_d, zq_e, zq_f, zq_g, zq_h, zq_i, zq_j, zq_k, zq_l, zq_m, zq_n, zq_o, zq_p, zq_q, zq_r, zq_s, zq_t, zq_u, zq_v, zq_w, zq_x, zq_y, zq_z, zq_A, zq_B, zq_C, zq_D, zq_E, zq_F, zq_G, zq_H, zq_I, zq_J, zq_K, zq_L, ↓zq_M, ↓zq_N, ↓zq_O, ↓zq_P, ↓zq_Q, ↓zq_R, zq_S, zq_T, zq_U, zq_V, zq_W, zq_X, zq_Y, zq_Z, zq_0, zq_1, zq_2, zq_3, zq_4, zq_5, ↓zq_6, ↓zq_7, ↓zq_8, ↓zq_9, ↓zq_aa, zq_ab, zq_ac, zq_ad, zq_ae, zq_af, zq_ag, ↓zq_ah, ↓zq_ai, ↓zq_aj, zq_ak, ↓zq_al, ↓zq_am, e_b1, e_b2, x_o1, x_o2, a2, b0]
    · by_cases b1 : k = 1
      · refine ⟨fun _ => ?_, fun h => by omega⟩
        simp [zq_a, zq_b, zq_c, zq_d, zq_e, zq_f, zq_g, zq_h, zq_i, zq_j, zq_k, zq_l, zq_m, zq_n, zq_o, zq_p, zq_q, zq_r, zq_s, zq_t, zq_u, zq_v, zq_w, zq_x, zq_y, zq_z, zq_A, zq_B, zq_C, zq_D, zq_E, zq_F, zq_G, zq_H, zq_I, zq_J, zq_K, zq_L, ↓zq_M, ↓zq_N, ↓zq_O, ↓zq_P, ↓zq_Q, ↓zq_R, zq_S, zq_T, zq_U, zq_V, zq_W, zq_X, zq_Y, zq_Z, zq_0, zq_1, zq_2, zq_3, zq_4, zq_5, ↓zq_6, ↓zq_7, ↓zq_8, ↓zq_9, ↓zq_aa, zq_ab, zq_ac, zq_ad, zq_ae, zq_af, zq_ag, ↓zq_ah, ↓zq_ai, ↓zq_aj, zq_ak, ↓zq_al, ↓zq_am, e_b1, e_b2, x_o1, x_o2, a2, b0, b1]
      · refine ⟨fun h => by omega, fun _ => ?_⟩
        simp [zq_a, zq_b, zq_c, zq_d, zq_e, zq_f, zq_g, zq_h, zq_i, zq_j, zq_k, zq_l, zq_m, zq_n, zq_o, zq_p, zq_q, zq_r, zq_s, zq_t, zq_u, zq_v, zq_w, zq_x, zq_y, zq_z, zq_A, zq_B, zq_C, zq_D, zq_E, zq_F, zq_G, zq_H, zq_I, zq_J, zq_K, zq_L, ↓zq_M, ↓zq_N, ↓zq_O, ↓zq_P, ↓zq_Q, ↓zq_R, zq_S, zq_T, zq_U, zq_V, zq_W, zq_X, zq_Y, zq_Z, zq_0, zq_1, zq_2, zq_3, zq_4, zq_5, ↓zq_6, ↓zq_7, ↓zq_8, ↓zq_9, ↓zq_aa, zq_ab, zq_ac, zq_ad, zq_ae, zq_af, zq_ag, ↓zq_ah, ↓zq_ai, ↓zq_aj, zq_ak, ↓zq_al, ↓zq_am, e_b1, e_b2, x_o1, x_o2, a2, b0, b1]
  by_cases a3 : K = 3
  · by_cases b3 : k = 3
    · refine ⟨fun h => by omega, fun _ => ?_⟩
      simp [zq_a, zq_b, zq_c, zq_d, zq_e, zq_f, zq_g, zq_h, zq_i, zq_j, zq_k, zq_l, zq_m, zq_n, zq_o, zq_p, zq_q, zq_r, zq_s, zq_t, zq_u, zq_v, zq_w, zq_x, zq_y, zq_z, zq_A, zq_B, zq_C, zq_D, zq_E, zq_F, zq_G, zq_H, zq_I, zq_J, zq_K, zq_L, ↓zq_M, ↓zq_N, ↓zq_O, ↓zq_P, ↓zq_Q, ↓zq_R, zq_S, zq_T, zq_U, zq_V, zq_W, zq_X, zq_Y, zq_Z, zq_0, zq_1, zq_2, zq_3, zq_4, zq_5, ↓zq_6, ↓zq_7, ↓zq_8, ↓zq_9, ↓zq_aa, zq_ab, zq_ac, zq_ad, zq_ae, zq_af, zq_ag, ↓zq_ah, ↓zq_ai, ↓zq_aj, zq_ak, ↓zq_al, ↓zq_am, e_b1, e_b2, x_o1, x_o2, a3, b3]
    · refine ⟨fun _ => ?_, fun h => by omega⟩
      simp [zq_a, zq_b, zq_c, zq_d, zq_e, zq_f, zq_g, zq_h, zq_i, zq_j, zq_k, zq_l, zq_m, zq_n, zq_o, zq_p, zq_q, zq_r, zq_s, zq_t, zq_u, zq_v, zq_w, zq_x, zq_y, zq_z, zq_A, zq_B, zq_C, zq_D, zq_E, zq_F, zq_G, zq_H, zq_I, zq_J, zq_K, zq_L, ↓zq_M, ↓zq_N, ↓zq_O, ↓zq_P, ↓zq_Q, ↓zq_R, zq_S, zq_T, zq_U, zq_V, zq_W, zq_X, zq_Y, zq_Z, zq_0, zq_1, zq_2, zq_3, zq_4, zq_5, ↓zq_6, ↓zq_7, ↓zq_8, ↓zq_9, ↓zq_aa, zq_ab, zq_ac, zq_ad, zq_ae, zq_af, zq_ag, ↓zq_ah, ↓zq_ai, ↓zq_aj, zq_ak, ↓zq_al, ↓zq_am, e_b1, e_b2, x_o1, x_o2, a3, b3]
  refine ⟨fun h => by omega, fun _ => ?_⟩
  simp [zq_a, zq_b, zq_c, zq_d, zq_e, zq_f, zq_g, zq_h, zq_i, zq_j, zq_k, zq_l, zq_m, zq_n, zq_o, zq_p, zq_q, zq_r, zq_s, zq_t, zq_u, zq_v, zq_w, zq_x, zq_y, zq_z, zq_A, zq_B, zq_C, zq_D, zq_E, zq_F, zq_G, zq_H, zq_I, zq_J, zq_K, zq_L, ↓zq_M, ↓zq_N, ↓zq_O, ↓zq_P, ↓zq_Q, ↓zq_R, zq_S, zq_T, zq_U, zq_V, zq_W, zq_X, zq_Y, zq_Z, zq_0, zq_1, zq_2, zq_3, zq_4, zq_5, ↓zq_6, ↓zq_7, ↓zq_8, ↓zq_9, ↓zq_aa, zq_ab, zq_ac, zq_ad, zq_ae, zq_af, zq_ag, ↓zq_ah, ↓zq_ai, ↓zq_aj, zq_ak, ↓zq_al, ↓zq_am, e_b1, e_b2, x_o1, x_o2, a1, a2, a3]
def w_b53 (M : EM) (p o i : Nat) (g d : Int) : EM := e_up (e_up (e_up (e_up (e_up M 15 (8 * p + i) o) 16 (8 * p + i) g) 17 (8 * p + i) d) 14 p ((i + 1 : Nat) : Int)) 13 o p
theorem w_53n {p : Nat} {o g d : Int} {M : EM} (hp : p < 40) (h : ¬ (0 ≤ o ∧ o < p ∧ M 13 o.toNat < 0 ∧ w_mh (M 11 p) (M 11 o.toNat))) : E_C 53 [10, (p : Int), o, g, d] M = some (0, M) := by
  have s0 : E_C 53 [10, (p : Int), o, g, d] M = e_tv E_C (E_V 53) e_t53_0 [10, (p : Int), o, g, d, 0, 0] M := r_ent (u := 53) (as := [10, (p : Int), o, g, d]) (M := M) (decide_eq_true (show e_isO 4 10 by decide +kernel))
  rw [s0]
  unfold e_t53_0
  rcases x_le 0 o with ⟨q0, q0_n⟩ | ⟨q0, q0_n⟩
  · rcases x_lt o ((p : Int)) with ⟨q1, q1_n⟩ | ⟨q1, q1_n⟩
    · have t1 := fun M => w_atN (a := 13) (i := o) (n := 40) (by decide +kernel) (j := o.toNat) (by omega) (by omega) M
      have t2 := fun M => w_atN (a := 11) (i := o) (n := 40) (by decide +kernel) (j := o.toNat) (by omega) (by omega) M
      have t3 := fun M => w_atN (a := 11) (i := (p : Int)) (n := 40) (by decide +kernel) (j := p) rfl (by omega) M
      rcases x_lt (M 13 o.toNat) 0 with ⟨q2, q2_n⟩ | ⟨q2, q2_n⟩
      · have k := (w_54 (K := M 11 p) (k := M 11 o.toNat) M).2 (fun e => h ⟨q0, q1, q2, e⟩)
        simp [zq_a, zq_b, zq_c, zq_d, zq_e, zq_f, zq_g, zq_h, zq_i, zq_j, zq_k, zq_l, zq_m, zq_n, zq_o, zq_p, zq_q, zq_r, zq_s, zq_t, zq_u, zq_v, zq_w, zq_x, zq_y, zq_z, zq_A, zq_B, zq_C, zq_D, zq_E, zq_F, zq_G, zq_H, zq_I, zq_J, zq_K, zq_L, ↓zq_M, ↓zq_N, ↓zq_O, ↓zq_P, ↓zq_Q, ↓zq_R, zq_S, zq_T, zq_U, zq_V, zq_W, zq_X, zq_Y, zq_Z, zq_0, zq_1, zq_2, zq_3, zq_4, zq_5, ↓zq_6, ↓zq_7, ↓zq_8, ↓zq_9, ↓zq_aa, zq_ab, zq_ac, zq_ad, zq_ae, zq_af, zq_ag, ↓zq_ah, ↓zq_ai, ↓zq_aj, zq_ak, ↓zq_al, ↓zq_am, e_b1, e_b2, x_o1, x_o2, w_P1, w_P3, t1, t2, t3, q0, q0_n, q1, q1_n, q2, q2_n, k]
      · simp [zq_a, zq_b, zq_c, zq_d, zq_e, zq_f, zq_g, zq_h, zq_i, zq_j, zq_k, zq_l, zq_m, zq_n, zq_o, zq_p, zq_q, zq_r, zq_s, zq_t, zq_u, zq_v, zq_w, zq_x, zq_y, zq_z, zq_A, zq_B, zq_C, zq_D, zq_E, zq_F, zq_G, zq_H, zq_I, zq_J, zq_K, zq_L, ↓zq_M, ↓zq_N, ↓zq_O, ↓zq_P, ↓zq_Q, ↓zq_R, zq_S, zq_T, zq_U, zq_V, zq_W, zq_X, zq_Y, zq_Z, zq_0, zq_1, zq_2, zq_3, zq_4, zq_5, ↓zq_6, ↓zq_7, ↓zq_8, ↓zq_9, ↓zq_aa, zq_ab, zq_ac, zq_ad, zq_ae, zq_af, zq_ag, ↓zq_ah, ↓zq_ai, ↓zq_aj, zq_ak, ↓zq_al, ↓zq_am, e_b1, e_b2, x_o1, x_o2, w_P1, w_P3, t1, t2, t3, q0, q0_n, q1, q1_n, q2, q2_n]
    · simp [zq_a, zq_b, zq_c, zq_d, zq_e, zq_f, zq_g, zq_h, zq_i, zq_j, zq_k, zq_l, zq_m, zq_n, zq_o, zq_p, zq_q, zq_r, zq_s, zq_t, zq_u, zq_v, zq_w, zq_x, zq_y, zq_z, zq_A, zq_B, zq_C, zq_D, zq_E, zq_F, zq_G, zq_H, zq_I, zq_J, zq_K, zq_L, ↓zq_M, ↓zq_N, ↓zq_O, ↓zq_P, ↓zq_Q, ↓zq_R, zq_S, zq_T, zq_U, zq_V, zq_W, zq_X, zq_Y, zq_Z, zq_0, zq_1, zq_2, zq_3, zq_4, zq_5, ↓zq_6, ↓zq_7, ↓zq_8, ↓zq_9, ↓zq_aa, zq_ab, zq_ac, zq_ad, zq_ae, zq_af, zq_ag, ↓zq_ah, ↓zq_ai, ↓zq_aj, zq_ak, ↓zq_al, ↓zq_am, e_b1, e_b2, x_o1, x_o2, q0, q0_n, q1, q1_n]
  · simp [zq_a, zq_b, zq_c, zq_d, zq_e, zq_f, zq_g, zq_h, zq_i, zq_j, zq_k, zq_l, zq_m, zq_n, zq_o, zq_p, zq_q, zq_r, zq_s, zq_t, zq_u, zq_v, zq_w, zq_x, zq_y, zq_z, zq_A, zq_B, zq_C, zq_D, zq_E, zq_F, zq_G, zq_H, zq_I, zq_J, zq_K, zq_L, ↓zq_M, ↓zq_N, ↓zq_O, ↓zq_P, ↓zq_Q, ↓zq_R, zq_S, zq_T, zq_U, zq_V, zq_W, zq_X, zq_Y, zq_Z, zq_0, zq_1, zq_2, zq_3, zq_4, zq_5, ↓zq_6, ↓zq_7, ↓zq_8, ↓zq_9, ↓zq_aa, zq_ab, zq_ac, zq_ad, zq_ae, zq_af, zq_ag, ↓zq_ah, ↓zq_ai, ↓zq_aj, zq_ak, ↓zq_al, ↓zq_am, e_b1, e_b2, x_o1, x_o2, q0, q0_n]
theorem w_53y {p i o : Nat} {g d : Int} {M : EM} (hp : p < 40) (ho : o < p) (h1 : M 13 o < 0) (h2 : w_mh (M 11 p) (M 11 o)) (hi : M 14 p = i) (h8 : i < 8) : E_C 53 [10, (p : Int), (o : Int), g, d] M = some (1, w_b53 M p o i g d) := by
  have s0 : E_C 53 [10, (p : Int), (o : Int), g, d] M = e_tv E_C (E_V 53) e_t53_0 [10, (p : Int), (o : Int), g, d, 0, 0] M := r_ent (u := 53) (as := [10, (p : Int), (o : Int), g, d]) (M := M) (decide_eq_true (show e_isO 4 10 by decide +kernel))
  rw [s0]
  unfold e_t53_0
  have q0 : (0 : Int) ≤ (o : Int) := by omega
  have q1 : (o : Int) < (p : Int) := by omega
  have t1 := fun M => w_atN (a := 13) (i := (o : Int)) (n := 40) (by decide +kernel) (j := o) (by omega) (by omega) M
  have t2 := fun M => w_atN (a := 11) (i := (o : Int)) (n := 40) (by decide +kernel) (j := o) (by omega) (by omega) M
  have t3 := fun M => w_atN (a := 11) (i := (p : Int)) (n := 40) (by decide +kernel) (j := p) rfl (by omega) M
  have t4 := fun M => w_atN (a := 14) (i := (p : Int)) (n := 40) (by decide +kernel) (j := p) rfl (by omega) M
  have k := (w_54 (K := M 11 p) (k := M 11 o) M).1 h2
  have w1 : e_w ((p : Int) * 8) = (p : Int) * 8 := a_w_id (by omega) (by omega)
  have w2 : e_w ((p : Int) * 8 + (i : Int)) = (p : Int) * 8 + (i : Int) := a_w_id (by omega) (by omega)
  have w3 : e_w ((i : Int) + 1) = (i : Int) + 1 := a_w_id (by omega) (by omega)
  have l1 := fun v M => w_layN (a := 15) (i := (p : Int) * 8 + (i : Int)) (n := 320) (by decide +kernel) (j := 8 * p + i) (by omega) (by omega) v M
  have l2 := fun v M => w_layN (a := 16) (i := (p : Int) * 8 + (i : Int)) (n := 320) (by decide +kernel) (j := 8 * p + i) (by omega) (by omega) v M
  have l3 := fun v M => w_layN (a := 17) (i := (p : Int) * 8 + (i : Int)) (n := 320) (by decide +kernel) (j := 8 * p + i) (by omega) (by omega) v M
  have l4 := fun v M => w_layN (a := 14) (i := (p : Int)) (n := 40) (by decide +kernel) (j := p) rfl (by omega) v M
  have l5 := fun v M => w_layN (a := 13) (i := (o : Int)) (n := 40) (by decide +kernel) (j := o) (by omega) (by omega) v M
  unfold w_b53
  simp [zq_a, zq_b, zq_c, zq_d, zq_e, zq_f, zq_g, zq_h, zq_i, zq_j, zq_k, zq_l, zq_m, zq_n, zq_o, zq_p, zq_q, zq_r, zq_s, zq_t, zq_u, zq_v, zq_w, zq_x, zq_y, zq_z, zq_A, zq_B, zq_C, zq_D, zq_E, zq_F, zq_G, zq_H, zq_I, zq_J, zq_K, zq_L, ↓zq_M, ↓zq_N, ↓zq_O, ↓zq_P, ↓zq_Q, ↓zq_R, zq_S, zq_T, zq_U, zq_V, zq_W, zq_X, zq_Y, zq_Z, zq_0, zq_1, zq_2, zq_3, zq_4, zq_5, ↓zq_6, ↓zq_7, ↓zq_8, ↓zq_9, ↓zq_aa, zq_ab, zq_ac, zq_ad, zq_ae, zq_af, zq_ag, ↓zq_ah, ↓zq_ai, ↓zq_aj, zq_ak, ↓zq_al, ↓zq_am, e_b1, e_b2, x_o1, x_o2, w_P1, w_P3, w_P4, w_P5, w_P6, w_P7, t1, t2, t3, t4, hi, h1, k, q0, q1, w1, w2, w3, l1, l2, l3, l4, l5, c_up_n]
/-- the numbers of a statement, from the f-th on, may all join PART p of kind K -/
def w_j1 (M : EM) (p : Nat) (K : Int) (f i : Nat) : Prop := 0 ≤ M 167 (f + i) ∧ M 167 (f + i) < p ∧ M 13 (M 167 (f + i)).toNat < 0 ∧ w_mh K (M 11 (M 167 (f + i)).toNat) ∧ ∀ j, j < i → M 167 (f + j) ≠ M 167 (f + i)
def w_jn (M : EM) (p : Nat) (K : Int) (f n : Nat) : Prop := ∀ i, i < n → w_j1 M p K f i
/-- after i have joined -/
def w_js (M0 M : EM) (p : Nat) (K t : Int) (f i : Nat) : Prop :=
  M 11 p = K ∧ M 12 p = t ∧ M 13 p = -1 ∧ M 14 p = i ∧ M 10 0 = (p : Int) + 1 ∧
  (∀ j, j < i → M 15 (8 * p + j) = M0 167 (f + j) ∧ M 16 (8 * p + j) = M0 168 (f + j) ∧ M 17 (8 * p + j) = M0 169 (f + j) ∧ M 13 (M0 167 (f + j)).toNat = p) ∧
  (∀ q, q ≠ p → (∀ j, j < i → M0 167 (f + j) ≠ (q : Int)) → M 13 q = M0 13 q) ∧
  (∀ q, q ≠ p → M 11 q = M0 11 q ∧ M 12 q = M0 12 q ∧ M 14 q = M0 14 q ∧ M 22 q = M0 22 q ∧ M 23 q = M0 23 q ∧ M 24 q = M0 24 q) ∧
  (∀ q, (q < 8 * p ∨ 8 * p + 8 ≤ q) → M 15 q = M0 15 q ∧ M 16 q = M0 16 q ∧ M 17 q = M0 17 q) ∧
  (∀ q, (q < 4 * p ∨ 4 * p + 4 ≤ q) → M 21 q = M0 21 q) ∧
  (M 21 (4 * p) = 100 ∧ M 21 (4 * p + 1) = 0 ∧ M 21 (4 * p + 2) = 0 ∧ M 21 (4 * p + 3) = 0 ∧ M 22 p = 0 ∧ M 23 p = -1 ∧ M 24 p = -1) ∧
  (M (37 + p) 0 = 0 ∧ M (37 + p) 1 = 5 ∧ M (37 + p) 2 = 0 ∧ M (37 + p) 3 = 0 ∧ M (37 + p) 4 = 0) ∧
  (∀ id k, ¬ (id = 10 ∧ k = 0) → ¬ (11 ≤ id ∧ id ≤ 17) → ¬ (21 ≤ id ∧ id ≤ 24) → id ≠ 37 + p → M id k = M0 id k)
theorem w_b81_n {M : EM} {s id k : Nat} (h : id ≠ s) : w_b81 M s id k = M id k := by
  unfold w_b81
  simp [e_up, h]
theorem w_b81_s {M : EM} {s : Nat} : w_b81 M s s 0 = 0 ∧ w_b81 M s s 1 = 5 ∧ w_b81 M s s 2 = 0 ∧ w_b81 M s s 3 = 0 ∧ w_b81 M s s 4 = 0 := by
  unfold w_b81
  simp [e_up]
theorem w_js0 {M0 : EM} {p : Nat} {K t : Int} {f : Nat} (hp : p < 40) : w_js M0 (w_b49 M0 p K t) p K t f 0 := by
  unfold w_b49
  refine ⟨?_, ?_, ?_, ?_, ?_, fun j hj => absurd hj (Nat.not_lt_zero _), fun q hq _ => ?_, fun q hq => ⟨?_, ?_, ?_, ?_, ?_, ?_⟩, fun q hq => ⟨?_, ?_, ?_⟩, fun q hq => ?_, ⟨?_, ?_, ?_, ?_, ?_, ?_, ?_⟩, w_b81_s, fun id k h1 h2 h3 h4 => ?_⟩
  all_goals rw [w_b81_n (by omega)]
  all_goals unfold w_b35 w_b52
  case refine_7 => simp [e_up, hq]
  all_goals first
    | (simp [e_up, hq]; done)
    | (simp [e_up]; done)
    | (simp [e_up]; omega)
    | (repeat rw [c_up_n (by omega)])
end
section
/-! the class makes a PART out of others: exactly -/
theorem w_jsn {M0 M : EM} {p : Nat} {K t : Int} {f i : Nat} (hp : p < 40) (hi : i < 8) (h : w_js M0 M p K t f i) (hj : w_jn M0 p K f i) (h1 : w_j1 M0 p K f i) {o : Nat} (ho : M0 167 (f + i) = o) : w_js M0 (w_b53 M p o i (M0 168 (f + i)) (M0 169 (f + i))) p K t f (i + 1) := by
  obtain ⟨a1, a2, a3, a4, a5, a6, a7, a8, a9, a10, a11, a12, a13⟩ := h
  obtain ⟨b1, b2, b3, b4, b5⟩ := h1
  rw [ho] at b1 b2 b3 b4 b5
  have hop : o < p := by omega
  have hopn : o ≠ p := by omega
  have hop' : p ≠ o := by omega
  have x13 : ∀ q, q ≠ o → w_b53 M p o i (M0 168 (f + i)) (M0 169 (f + i)) 13 q = M 13 q := by
    intro q hq
    unfold w_b53
    simp [e_up, hq]
  have y13 : w_b53 M p o i (M0 168 (f + i)) (M0 169 (f + i)) 13 o = p := by
    unfold w_b53
    simp [e_up]
  have x14 : ∀ q, q ≠ p → w_b53 M p o i (M0 168 (f + i)) (M0 169 (f + i)) 14 q = M 14 q := by
    intro q hq
    unfold w_b53
    simp [e_up, hq]
  have y14 : w_b53 M p o i (M0 168 (f + i)) (M0 169 (f + i)) 14 p = ((i + 1 : Nat) : Int) := by
    unfold w_b53
    simp [e_up]
  have x15 : ∀ q, q ≠ 8 * p + i → w_b53 M p o i (M0 168 (f + i)) (M0 169 (f + i)) 15 q = M 15 q ∧ w_b53 M p o i (M0 168 (f + i)) (M0 169 (f + i)) 16 q = M 16 q ∧ w_b53 M p o i (M0 168 (f + i)) (M0 169 (f + i)) 17 q = M 17 q := by
    intro q hq
    unfold w_b53
    simp [e_up, hq]
  have y15 : w_b53 M p o i (M0 168 (f + i)) (M0 169 (f + i)) 15 (8 * p + i) = o ∧ w_b53 M p o i (M0 168 (f + i)) (M0 169 (f + i)) 16 (8 * p + i) = M0 168 (f + i) ∧ w_b53 M p o i (M0 168 (f + i)) (M0 169 (f + i)) 17 (8 * p + i) = M0 169 (f + i) := by
    unfold w_b53
    simp [e_up]
  have xo : ∀ id k, ¬ (13 ≤ id ∧ id ≤ 17) → w_b53 M p o i (M0 168 (f + i)) (M0 169 (f + i)) id k = M id k := by
    intro id k hid
    have e3 : id ≠ 13 := by omega
    have e4 : id ≠ 14 := by omega
    have e5 : id ≠ 15 := by omega
    have e6 : id ≠ 16 := by omega
    have e7 : id ≠ 17 := by omega
    unfold w_b53
    simp [e_up, e3, e4, e5, e6, e7]
  generalize w_b53 M p o i (M0 168 (f + i)) (M0 169 (f + i)) = N at x13 y13 x14 y14 x15 y15 xo ⊢
  refine ⟨?_, ?_, ?_, y14, ?_, fun j hj' => ?_, fun q hq hn => ?_, fun q hq => ?_, fun q hq => ?_, fun q hq => ?_, ?_, ?_, fun id k h1 h2 h3 h4 => ?_⟩
  · rw [xo _ _ (by omega)]; exact a1
  · rw [xo _ _ (by omega)]; exact a2
  · rw [x13 _ hop']; exact a3
  · rw [xo _ _ (by omega)]; exact a5
  · by_cases e : j = i
    · subst e
      rw [y15.1, y15.2.1, y15.2.2, ho, Int.toNat_natCast]
      exact ⟨rfl, rfl, rfl, y13⟩
    · obtain ⟨c1, c2, c3, c4⟩ := a6 j (by omega)
      obtain ⟨d1, d2, d3⟩ := x15 (8 * p + j) (by omega)
      rw [d1, d2, d3]
      refine ⟨c1, c2, c3, ?_⟩
      have b5' := b5 j (by omega)
      have z0 := (hj j (by omega)).1
      rw [x13 _ (by omega)]
      exact c4
  · have e := hn i (by omega)
    rw [ho] at e
    rw [x13 _ (by omega)]
    exact a7 q hq (fun j hj' => hn j (by omega))
  · rw [xo 11 _ (by omega), xo 12 _ (by omega), xo 22 _ (by omega), xo 23 _ (by omega), xo 24 _ (by omega), x14 _ hq]
    exact a8 q hq
  · obtain ⟨d1, d2, d3⟩ := x15 q (by omega)
    rw [d1, d2, d3]
    exact a9 q hq
  · rw [xo _ _ (by omega)]; exact a10 q hq
  · rw [xo 21 _ (by omega), xo 21 _ (by omega), xo 21 _ (by omega), xo 21 _ (by omega), xo 22 _ (by omega), xo 23 _ (by omega), xo 24 _ (by omega)]
    exact a11
  · rw [xo _ _ (by omega), xo _ _ (by omega), xo _ _ (by omega), xo _ _ (by omega), xo _ _ (by omega)]
    exact a12
  · rw [xo _ _ (by omega)]
    exact a13 id k h1 h2 h3 h4
theorem w_70l {p f n : Nat} {K t : Int} (hp : p < 40) (hn : n ≤ 8) (hf : f + n ≤ 120) (M0 : EM) : ∀ (m i : Nat) (M : EM), i + m = n → w_jn M0 p K f i → w_js M0 M p K t f i → ∃ r M' i', E_V 70 12 [162, 9, K, t, (f : Int), (n : Int), (p : Int), ((f + i : Nat) : Int)] M = some (r, M') ∧ w_js M0 M' p K t f i' ∧ w_jn M0 p K f i' ∧ ((r = 1 ∧ i' = n) ∨ (r = 0 ∧ i' < n ∧ ¬ w_j1 M0 p K f i')) := by
  have w0 : e_w ((f : Int) + (n : Int)) = (f : Int) + (n : Int) := a_w_id (by omega) (by omega)
  intro m
  induction m with
  | zero =>
    intro i M hm hj hs
    have e : i = n := by omega
    subst e
    refine ⟨1, M, i, ?_, hs, hj, Or.inl ⟨rfl, rfl⟩⟩
    have q : ¬ (((f + i : Nat) : Int) < (f : Int) + (i : Int)) := by omega
    generalize ((f + i : Nat) : Int) = x at q ⊢
    rw [E_V_eq]
    show e_tv E_C (E_V 70) e_t70_12 [162, 9, K, t, (f : Int), (i : Int), (p : Int), x] M = _
    unfold e_t70_12
    simp [zq_a, zq_b, zq_c, zq_d, zq_e, zq_f, zq_g, zq_h, zq_i, zq_j, zq_k, zq_l, zq_m, zq_n, zq_o, zq_p, zq_q, zq_r, zq_s, zq_t, zq_u, zq_v, zq_w, zq_x, zq_y, zq_z, zq_A, zq_B, zq_C, zq_D, zq_E, zq_F, zq_G, zq_H, zq_I, zq_J, zq_K, zq_L, ↓zq_M, ↓zq_N, ↓zq_O, ↓zq_P, ↓zq_Q, ↓zq_R, zq_S, zq_T, zq_U, zq_V, zq_W, zq_X, zq_Y, zq_Z, zq_0, zq_1, zq_2, zq_3, zq_4, zq_5, ↓zq_6, ↓zq_7, ↓zq_8, ↓zq_9, ↓zq_aa, zq_ab, zq_ac, zq_ad, zq_ae, zq_af, zq_ag, ↓zq_ah, ↓zq_ai, ↓zq_aj, zq_ak, ↓zq_al, ↓zq_am, e_b1, e_b2, x_o1, x_o2, w0, q]
  | succ m ih =>
    intro i M hm hj hs
    have S := hs
    obtain ⟨a1, a2, a3, a4, a5, a6, a7, a8, a9, a10, a11, a12, a13⟩ := S
    have q : ((f + i : Nat) : Int) < (f : Int) + (n : Int) := by omega
    have t1 := w_atN (a := 167) (i := ((f + i : Nat) : Int)) (n := 120) (by decide +kernel) (j := f + i) rfl (by omega) M
    have t2 := w_atN (a := 168) (i := ((f + i : Nat) : Int)) (n := 120) (by decide +kernel) (j := f + i) rfl (by omega) M
    have t3 := w_atN (a := 169) (i := ((f + i : Nat) : Int)) (n := 120) (by decide +kernel) (j := f + i) rfl (by omega) M
    have z1 : M 167 (f + i) = M0 167 (f + i) := a13 _ _ (by omega) (by omega) (by omega) (by omega)
    have z2 : M 168 (f + i) = M0 168 (f + i) := a13 _ _ (by omega) (by omega) (by omega) (by omega)
    have z3 : M 169 (f + i) = M0 169 (f + i) := a13 _ _ (by omega) (by omega) (by omega) (by omega)
    have t1' : E_C 146 [167, ((f + i : Nat) : Int)] M = some (M0 167 (f + i), M) := t1.trans (congrArg some (congrArg (·, M) z1))
    have t2' : E_C 146 [168, ((f + i : Nat) : Int)] M = some (M0 168 (f + i), M) := t2.trans (congrArg some (congrArg (·, M) z2))
    have t3' : E_C 146 [169, ((f + i : Nat) : Int)] M = some (M0 169 (f + i), M) := t3.trans (congrArg some (congrArg (·, M) z3))
    have w1 : e_w (((f + i : Nat) : Int) + 1) = ((f + (i + 1) : Nat) : Int) := (a_w_id (by omega) (by omega)).trans (by omega)
    have P0 : e_gf 192 [9] M = some 10 := w_H0 M
    by_cases j1 : w_j1 M0 p K f i
    · have J := j1
      obtain ⟨b1, b2, b3, b4, b5⟩ := J
      obtain ⟨o, ho⟩ : ∃ o : Nat, M0 167 (f + i) = o := ⟨(M0 167 (f + i)).toNat, by omega⟩
      rw [ho] at b1 b2 b3 b4 b5
      rw [Int.toNat_natCast] at b3 b4
      have hop : o < p := by omega
      have g13 : M 13 o = M0 13 o := a7 o (by omega) b5
      have g11 : M 11 o = M0 11 o := (a8 o (by omega)).1
      have k := w_53y (g := M0 168 (f + i)) (d := M0 169 (f + i)) hp hop (by rw [g13]; exact b3) (by rw [a1, g11]; exact b4) a4 (by omega)
      have J2 : w_jn M0 p K f (i + 1) := fun j hj' => by
        by_cases e : j = i
        · rw [e]; exact j1
        · exact hj j (by omega)
      obtain ⟨r, M', i', k1, c1, c2, c3⟩ := ih (i + 1) _ (by omega) J2 (w_jsn hp (by omega) hs hj j1 ho)
      refine ⟨r, M', i', ?_, c1, c2, c3⟩
      rw [ho] at t1'
      generalize ((f + i : Nat) : Int) = x at q t1' t2' t3' w1 ⊢
      rw [E_V_eq]
      show e_tv E_C (E_V 70) e_t70_12 [162, 9, K, t, (f : Int), (n : Int), (p : Int), x] M = _
      unfold e_t70_12
      simp [zq_a, zq_b, zq_c, zq_d, zq_e, zq_f, zq_g, zq_h, zq_i, zq_j, zq_k, zq_l, zq_m, zq_n, zq_o, zq_p, zq_q, zq_r, zq_s, zq_t, zq_u, zq_v, zq_w, zq_x, zq_y, zq_z, zq_A, zq_B, zq_C, zq_D, zq_E, zq_F, zq_G, zq_H, zq_I, zq_J, zq_K, zq_L, ↓zq_M, ↓zq_N, ↓zq_O, ↓zq_P, ↓zq_Q, ↓zq_R, zq_S, zq_T, zq_U, zq_V, zq_W, zq_X, zq_Y, zq_Z, zq_0, zq_1, zq_2, zq_3, zq_4, zq_5, ↓zq_6, ↓zq_7, ↓zq_8, ↓zq_9, ↓zq_aa, zq_ab, zq_ac, zq_ad, zq_ae, zq_af, zq_ag, ↓zq_ah, ↓zq_ai, ↓zq_aj, zq_ak, ↓zq_al, ↓zq_am, e_b1, e_b2, x_o1, x_o2, w0, w1, q, P0, w_aD, w_aE, w_aF, t1', t2', t3', k]
      exact k1
    · have k : E_C 53 [10, (p : Int), M0 167 (f + i), M0 168 (f + i), M0 169 (f + i)] M = some (0, M) := w_53n hp (fun h => by
        obtain ⟨b1, b2, b3, b4⟩ := h
        apply j1
        obtain ⟨o, ho⟩ : ∃ o : Nat, M0 167 (f + i) = o := ⟨(M0 167 (f + i)).toNat, by omega⟩
        unfold w_j1
        rw [ho] at b1 b2 b3 b4 ⊢
        rw [Int.toNat_natCast] at b3 b4 ⊢
        have g11 : M 11 o = M0 11 o := (a8 o (by omega)).1
        have b5 : ∀ j, j < i → M0 167 (f + j) ≠ (o : Int) := fun j hj' e => by
          have c4 := (a6 j hj').2.2.2
          rw [e, Int.toNat_natCast] at c4
          omega
        rw [a1, g11] at b4
        rw [a7 o (by omega) b5] at b3
        exact ⟨b1, b2, b3, b4, b5⟩)
      refine ⟨0, M, i, ?_, hs, hj, Or.inr ⟨rfl, by omega, j1⟩⟩
      generalize ((f + i : Nat) : Int) = x at q t1' t2' t3' w1 ⊢
      rw [E_V_eq]
      show e_tv E_C (E_V 70) e_t70_12 [162, 9, K, t, (f : Int), (n : Int), (p : Int), x] M = _
      unfold e_t70_12
      simp [zq_a, zq_b, zq_c, zq_d, zq_e, zq_f, zq_g, zq_h, zq_i, zq_j, zq_k, zq_l, zq_m, zq_n, zq_o, zq_p, zq_q, zq_r, zq_s, zq_t, zq_u, zq_v, zq_w, zq_x, zq_y, zq_z, zq_A, zq_B, zq_C, zq_D, zq_E, zq_F, zq_G, zq_H, zq_I, zq_J, zq_K, zq_L, ↓zq_M, ↓zq_N, ↓zq_O, ↓zq_P, ↓zq_Q, ↓zq_R, zq_S, zq_T, zq_U, zq_V, zq_W, zq_X, zq_Y, zq_Z, zq_0, zq_1, zq_2, zq_3, zq_4, zq_5, ↓zq_6, ↓zq_7, ↓zq_8, ↓zq_9, ↓zq_aa, zq_ab, zq_ac, zq_ad, zq_ae, zq_af, zq_ag, ↓zq_ah, ↓zq_ai, ↓zq_aj, zq_ak, ↓zq_al, ↓zq_am, e_b1, e_b2, x_o1, x_o2, w0, q, P0, w_aD, w_aE, w_aF, t1', t2', t3', k]
theorem w_70 {p f n : Nat} {K t : Int} {M : EM} (hp : p < 40) (hn : n ≤ 8) (hf : f + n ≤ 120) (h0 : M 10 0 = p) : ∃ r M' i', E_C 70 [162, 9, K, t, (f : Int), (n : Int)] M = some (r, M') ∧ w_js M M' p K t f i' ∧ w_jn M p K f i' ∧ ((r = 1 ∧ i' = n) ∨ (r = 0 ∧ i' < n ∧ ¬ w_j1 M p K f i')) := by
  have s0 : E_C 70 [162, 9, K, t, (f : Int), (n : Int)] M = e_tv E_C (E_V 70) e_t70_0 [162, 9, K, t, (f : Int), (n : Int), 0, 0] M := r_ent (u := 70) (as := [162, 9, K, t, (f : Int), (n : Int)]) (M := M) (decide_eq_true c_rd5)
  obtain ⟨r, M', i', k1, c1, c2, c3⟩ := w_70l (K := K) (t := t) hp hn hf M n 0 (w_b49 M p K t) (by omega) (fun j hj => absurd hj (Nat.not_lt_zero _)) (w_js0 hp)
  have k2 := w_49 (k := K) (t := t) h0 hp
  refine ⟨r, M', i', ?_, c1, c2, c3⟩
  rw [s0]
  unfold e_t70_0
  have k1' : E_V 70 12 [162, 9, K, t, (f : Int), (n : Int), (p : Int), (f : Int)] (w_b49 M p K t) = some (r, M') := k1
  simp [zq_a, zq_b, zq_c, zq_d, zq_e, zq_f, zq_g, zq_h, zq_i, zq_j, zq_k, zq_l, zq_m, zq_n, zq_o, zq_p, zq_q, zq_r, zq_s, zq_t, zq_u, zq_v, zq_w, zq_x, zq_y, zq_z, zq_A, zq_B, zq_C, zq_D, zq_E, zq_F, zq_G, zq_H, zq_I, zq_J, zq_K, zq_L, ↓zq_M, ↓zq_N, ↓zq_O, ↓zq_P, ↓zq_Q, ↓zq_R, zq_S, zq_T, zq_U, zq_V, zq_W, zq_X, zq_Y, zq_Z, zq_0, zq_1, zq_2, zq_3, zq_4, zq_5, ↓zq_6, ↓zq_7, ↓zq_8, ↓zq_9, ↓zq_aa, zq_ab, zq_ac, zq_ad, zq_ae, zq_af, zq_ag, ↓zq_ah, ↓zq_ai, ↓zq_aj, zq_ak, ↓zq_al, ↓zq_am, e_b1, e_b2, x_o1, x_o2, k2, k1']
end
section
/-! the class makes a CELL: exactly -/
def w_ri (M : EM) (p j : Nat) : Prop := M 19 (6 * p + j) < M 19 (6 * p + (j + 1)) ∧ M 20 (6 * p + (j + 1)) < M 20 (6 * p + j)
theorem w_36l {p n : Nat} {M : EM} (hp : p < 40) (hn : n ≤ 6) : ∀ (m i : Nat), i + 1 + m = n → ∃ r, E_V 36 67 [18, (p : Int), (n : Int), 6 * (p : Int), 6 * (p : Int) + (n : Int) - 1, ((6 * p + (i + 1) : Nat) : Int)] M = some (r, M) ∧ ((r = 1 ∧ ∀ j, i ≤ j → j + 1 < n → w_ri M p j) ∨ (r = 0 ∧ ∃ j, i ≤ j ∧ j + 1 < n ∧ ¬ w_ri M p j)) := by
  intro m
  induction m with
  | zero =>
    intro i hm
    refine ⟨1, ?_, Or.inl ⟨rfl, fun j h1 h2 => by omega⟩⟩
    have q : ¬ (((6 * p + (i + 1) : Nat) : Int) ≤ 6 * (p : Int) + (n : Int) - 1) := by omega
    generalize ((6 * p + (i + 1) : Nat) : Int) = x at q ⊢
    rw [E_V_eq]
    show e_tv E_C (E_V 36) e_t36_67 [18, (p : Int), (n : Int), 6 * (p : Int), 6 * (p : Int) + (n : Int) - 1, x] M = _
    unfold e_t36_67
    simp [zq_a, zq_b, zq_c, zq_d, zq_e, zq_f, zq_g, zq_h, zq_i, zq_j, zq_k, zq_l, zq_m, zq_n, zq_o, zq_p, zq_q, zq_r, zq_s, zq_t, zq_u, zq_v, zq_w, zq_x, zq_y, zq_z, zq_A, zq_B, zq_C, zq_D, zq_E, zq_F, zq_G, zq_H, zq_I, zq_J, zq_K, zq_L, ↓zq_M, ↓zq_N, ↓zq_O, ↓zq_P, ↓zq_Q, ↓zq_R, zq_S, zq_T, zq_U, zq_V, zq_W, zq_X, zq_Y, zq_Z, zq_0, zq_1, zq_2, zq_3, zq_4, zq_5, ↓zq_6, ↓zq_7, ↓zq_8, ↓zq_9, ↓zq_aa, zq_ab, zq_ac, zq_ad, zq_ae, zq_af, zq_ag, ↓zq_ah, ↓zq_ai, ↓zq_aj, zq_ak, ↓zq_al, ↓zq_am, e_b1, e_b2, x_o1, x_o2, q]
  | succ m ih =>
    intro i hm
    obtain ⟨r, k1, c1⟩ := ih (i + 1) (by omega)
    have q : ((6 * p + (i + 1) : Nat) : Int) ≤ 6 * (p : Int) + (n : Int) - 1 := by omega
    have t1 := w_atN (a := 19) (i := ((6 * p + (i + 1) : Nat) : Int)) (n := 240) (by decide +kernel) (j := 6 * p + (i + 1)) rfl (by omega) M
    have t2 := w_atN (a := 20) (i := ((6 * p + (i + 1) : Nat) : Int)) (n := 240) (by decide +kernel) (j := 6 * p + (i + 1)) rfl (by omega) M
    have t3 := w_atN (a := 19) (i := ((6 * p + i : Nat) : Int)) (n := 240) (by decide +kernel) (j := 6 * p + i) rfl (by omega) M
    have t4 := w_atN (a := 20) (i := ((6 * p + i : Nat) : Int)) (n := 240) (by decide +kernel) (j := 6 * p + i) rfl (by omega) M
    have w1 : e_w (((6 * p + (i + 1) : Nat) : Int) - 1) = ((6 * p + i : Nat) : Int) := (a_w_id (by omega) (by omega)).trans (by omega)
    have w2 : e_w (((6 * p + (i + 1) : Nat) : Int) + 1) = ((6 * p + (i + 1 + 1) : Nat) : Int) := (a_w_id (by omega) (by omega)).trans (by omega)
    generalize ((6 * p + (i + 1) : Nat) : Int) = x at q t1 t2 w1 w2 ⊢
    generalize ((6 * p + (i + 1 + 1) : Nat) : Int) = y at w2 k1
    generalize ((6 * p + i : Nat) : Int) = z at w1 t3 t4
    by_cases c : w_ri M p i
    · refine ⟨r, ?_, ?_⟩
      · obtain ⟨d1, d2⟩ := c
        have d2_n : ¬ (M 20 (6 * p + i) ≤ M 20 (6 * p + (i + 1))) := by omega
        rw [E_V_eq]
        show e_tv E_C (E_V 36) e_t36_67 [18, (p : Int), (n : Int), 6 * (p : Int), 6 * (p : Int) + (n : Int) - 1, x] M = _
        unfold e_t36_67
        simp [zq_a, zq_b, zq_c, zq_d, zq_e, zq_f, zq_g, zq_h, zq_i, zq_j, zq_k, zq_l, zq_m, zq_n, zq_o, zq_p, zq_q, zq_r, zq_s, zq_t, zq_u, zq_v, zq_w, zq_x, zq_y, zq_z, zq_A, zq_B, zq_C, zq_D, zq_E, zq_F, zq_G, zq_H, zq_I, zq_J, zq_K, zq_L, ↓zq_M, ↓zq_N, ↓zq_O, ↓zq_P, ↓zq_Q, ↓zq_R, zq_S, zq_T, zq_U, zq_V, zq_W, zq_X, zq_Y, zq_Z, zq_0, zq_1, zq_2, zq_3, zq_4, zq_5, ↓zq_6, ↓zq_7, ↓zq_8, ↓zq_9, ↓zq_aa, zq_ab, zq_ac, zq_ad, zq_ae, zq_af, zq_ag, ↓zq_ah, ↓zq_ai, ↓zq_aj, zq_ak, ↓zq_al, ↓zq_am, e_b1, e_b2, x_o1, x_o2, q, w_C0, w_C1, w1, w2, t1, t2, t3, t4, d1, d2, d2_n, k1]
      · rcases c1 with ⟨e1, e2⟩ | ⟨e1, j, j1, j2, j3⟩
        · exact Or.inl ⟨e1, fun j h1 h2 => by
            by_cases e : j = i
            · rw [e]; exact c
            · exact e2 j (by omega) h2⟩
        · exact Or.inr ⟨e1, j, by omega, j2, j3⟩
    · refine ⟨0, ?_, Or.inr ⟨rfl, i, Nat.le_refl _, by omega, c⟩⟩
      rcases x_lt (M 19 (6 * p + i)) (M 19 (6 * p + (i + 1))) with ⟨d1, d1_n⟩ | ⟨d1, d1_n⟩
      · have d2 : M 20 (6 * p + i) ≤ M 20 (6 * p + (i + 1)) := by
          rcases Int.lt_or_le (M 20 (6 * p + (i + 1))) (M 20 (6 * p + i)) with h | h
          · exact absurd ⟨d1, h⟩ c
          · exact h
        rw [E_V_eq]
        show e_tv E_C (E_V 36) e_t36_67 [18, (p : Int), (n : Int), 6 * (p : Int), 6 * (p : Int) + (n : Int) - 1, x] M = _
        unfold e_t36_67
        simp [zq_a, zq_b, zq_c, zq_d, zq_e, zq_f, zq_g, zq_h, zq_i, zq_j, zq_k, zq_l, zq_m, zq_n, zq_o, zq_p, zq_q, zq_r, zq_s, zq_t, zq_u, zq_v, zq_w, zq_x, zq_y, zq_z, zq_A, zq_B, zq_C, zq_D, zq_E, zq_F, zq_G, zq_H, zq_I, zq_J, zq_K, zq_L, ↓zq_M, ↓zq_N, ↓zq_O, ↓zq_P, ↓zq_Q, ↓zq_R, zq_S, zq_T, zq_U, zq_V, zq_W, zq_X, zq_Y, zq_Z, zq_0, zq_1, zq_2, zq_3, zq_4, zq_5, ↓zq_6, ↓zq_7, ↓zq_8, ↓zq_9, ↓zq_aa, zq_ab, zq_ac, zq_ad, zq_ae, zq_af, zq_ag, ↓zq_ah, ↓zq_ai, ↓zq_aj, zq_ak, ↓zq_al, ↓zq_am, e_b1, e_b2, x_o1, x_o2, q, w_C0, w_C1, w1, t1, t2, t3, t4, d1, d1_n, d2]
      · rw [E_V_eq]
        show e_tv E_C (E_V 36) e_t36_67 [18, (p : Int), (n : Int), 6 * (p : Int), 6 * (p : Int) + (n : Int) - 1, x] M = _
        unfold e_t36_67
        simp [zq_a, zq_b, zq_c, zq_d, zq_e, zq_f, zq_g, zq_h, zq_i, zq_j, zq_k, zq_l, zq_m, zq_n, zq_o, zq_p, zq_q, zq_r, zq_s, zq_t, zq_u, zq_v, zq_w, zq_x, zq_y, zq_z, zq_A, zq_B, zq_C, zq_D, zq_E, zq_F, zq_G, zq_H, zq_I, zq_J, zq_K, zq_L, ↓zq_M, ↓zq_N, ↓zq_O, ↓zq_P, ↓zq_Q, ↓zq_R, zq_S, zq_T, zq_U, zq_V, zq_W, zq_X, zq_Y, zq_Z, zq_0, zq_1, zq_2, zq_3, zq_4, zq_5, ↓zq_6, ↓zq_7, ↓zq_8, ↓zq_9, ↓zq_aa, zq_ab, zq_ac, zq_ad, zq_ae, zq_af, zq_ag, ↓zq_ah, ↓zq_ai, ↓zq_aj, zq_ak, ↓zq_al, ↓zq_am, e_b1, e_b2, x_o1, x_o2, q, w_C0, w_C1, w1, t1, t2, t3, t4, d1, d1_n]
def w_cv (M : EM) (p m : Nat) : Prop := M 19 (6 * p) = 0 ∧ M 19 (6 * p + m) ≤ 60 ∧ M 20 (6 * p) ≠ 0 ∧ M 20 (6 * p + m) = 0 ∧ ∀ j, j < m → w_ri M p j
theorem w_36 {p m : Nat} {M : EM} (hp : p < 40) (hm : 1 ≤ m ∧ m ≤ 5) : (w_cv M p m → E_C 36 [18, (p : Int), ((m + 1 : Nat) : Int)] M = some (1, M)) ∧ (¬ w_cv M p m → E_C 36 [18, (p : Int), ((m + 1 : Nat) : Int)] M = some (0, M)) := by
  have s0 : E_C 36 [18, (p : Int), ((m + 1 : Nat) : Int)] M = e_tv E_C (E_V 36) e_t36_0 [18, (p : Int), ((m + 1 : Nat) : Int), 0, 0, 0] M := r_ent (u := 36) (as := [18, (p : Int), ((m + 1 : Nat) : Int)]) (M := M) (decide_eq_true (show e_isO 1 18 by decide +kernel))
  obtain ⟨r, k1, c1⟩ := w_36l (M := M) hp (n := m + 1) (by omega) m 0 (by omega)
  have w0 : e_w ((p : Int) * 6) = 6 * (p : Int) := (a_w_id (by omega) (by omega)).trans (by omega)
  have w1 : e_w (6 * (p : Int) + ((m + 1 : Nat) : Int)) = 6 * (p : Int) + ((m + 1 : Nat) : Int) := a_w_id (by omega) (by omega)
  obtain ⟨l, hl⟩ : ∃ l, 6 * (p : Int) + ((m + 1 : Nat) : Int) - 1 = l := ⟨_, rfl⟩
  have w2 : e_w (6 * (p : Int) + ((m + 1 : Nat) : Int) - 1) = l := (a_w_id (by omega) (by omega)).trans hl
  rw [hl] at k1
  have w3 : e_w (6 * (p : Int) + 1) = ((6 * p + (0 + 1) : Nat) : Int) := (a_w_id (by omega) (by omega)).trans (by omega)
  have t1 := w_atN (a := 19) (i := 6 * (p : Int)) (n := 240) (by decide +kernel) (j := 6 * p) (by omega) (by omega) M
  have t2 := w_atN (a := 20) (i := 6 * (p : Int)) (n := 240) (by decide +kernel) (j := 6 * p) (by omega) (by omega) M
  have t3 := w_atN (a := 19) (i := l) (n := 240) (by decide +kernel) (j := 6 * p + m) (by omega) (by omega) M
  have t4 := w_atN (a := 20) (i := l) (n := 240) (by decide +kernel) (j := 6 * p + m) (by omega) (by omega) M
  rw [s0]
  unfold e_t36_0
  generalize ((6 * p + (0 + 1) : Nat) : Int) = y at w3 k1
  clear hl
  generalize ((m + 1 : Nat) : Int) = n at w1 w2 k1 ⊢
  unfold w_cv
  by_cases a1 : M 19 (6 * p) = 0
  · rcases x_le (M 19 (6 * p + m)) 60 with ⟨a2, a2_n⟩ | ⟨a2, a2_n⟩
    · by_cases a3 : M 20 (6 * p) = 0
      · refine ⟨fun h => absurd a3 h.2.2.1, fun _ => ?_⟩
        simp [zq_a, zq_b, zq_c, zq_d, zq_e, zq_f, zq_g, zq_h, zq_i, zq_j, zq_k, zq_l, zq_m, zq_n, zq_o, zq_p, zq_q, zq_r, zq_s, zq_t, zq_u, zq_v, zq_w, zq_x, zq_y, zq_z, zq_A, zq_B, zq_C, zq_D, zq_E, zq_F, zq_G, zq_H, zq_I, zq_J, zq_K, zq_L, ↓zq_M, ↓zq_N, ↓zq_O, ↓zq_P, ↓zq_Q, ↓zq_R, zq_S, zq_T, zq_U, zq_V, zq_W, zq_X, zq_Y, zq_Z, zq_0, zq_1, zq_2, zq_3, zq_4, zq_5, ↓zq_6, ↓zq_7, ↓zq_8, ↓zq_9, ↓zq_aa, zq_ab, zq_ac, zq_ad, zq_ae, zq_af, zq_ag, ↓zq_ah, ↓zq_ai, ↓zq_aj, zq_ak, ↓zq_al, ↓zq_am, e_b1, e_b2, x_o1, x_o2, w_C0, w_C1, w0, w1, w2, t1, t2, t3, t4, a1, a2, a2_n, a3]
      · by_cases a4 : M 20 (6 * p + m) = 0
        · rcases c1 with ⟨e1, e2⟩ | ⟨e1, j, j1, j2, j3⟩
          · refine ⟨fun _ => ?_, fun h => absurd ⟨a1, a2, a3, a4, fun j hj => e2 j (Nat.zero_le _) (by omega)⟩ h⟩
            subst e1
            simp [zq_a, zq_b, zq_c, zq_d, zq_e, zq_f, zq_g, zq_h, zq_i, zq_j, zq_k, zq_l, zq_m, zq_n, zq_o, zq_p, zq_q, zq_r, zq_s, zq_t, zq_u, zq_v, zq_w, zq_x, zq_y, zq_z, zq_A, zq_B, zq_C, zq_D, zq_E, zq_F, zq_G, zq_H, zq_I, zq_J, zq_K, zq_L, ↓zq_M, ↓zq_N, ↓zq_O, ↓zq_P, ↓zq_Q, ↓zq_R, zq_S, zq_T, zq_U, zq_V, zq_W, zq_X, zq_Y, zq_Z, zq_0, zq_1, zq_2, zq_3, zq_4, zq_5, ↓zq_6, ↓zq_7, ↓zq_8, ↓zq_9, ↓zq_aa, zq_ab, zq_ac, zq_ad, zq_ae, zq_af, zq_ag, ↓zq_ah, ↓zq_ai, ↓zq_aj, zq_ak, ↓zq_al, ↓zq_am, e_b1, e_b2, x_o1, x_o2, w_C0, w_C1, w0, w1, w2, w3, t1, t2, t3, t4, a1, a2, a2_n, a3, a4, k1]
          · refine ⟨fun h => absurd (h.2.2.2.2 j (by omega)) j3, fun _ => ?_⟩
            subst e1
            simp [zq_a, zq_b, zq_c, zq_d, zq_e, zq_f, zq_g, zq_h, zq_i, zq_j, zq_k, zq_l, zq_m, zq_n, zq_o, zq_p, zq_q, zq_r, zq_s, zq_t, zq_u, zq_v, zq_w, zq_x, zq_y, zq_z, zq_A, zq_B, zq_C, zq_D, zq_E, zq_F, zq_G, zq_H, zq_I, zq_J, zq_K, zq_L, ↓zq_M, ↓zq_N, ↓zq_O, ↓zq_P, ↓zq_Q, ↓zq_R, zq_S, zq_T, zq_U, zq_V, zq_W, zq_X, zq_Y, zq_Z, zq_0, zq_1, zq_2, zq_3, zq_4, zq_5, ↓zq_6, ↓zq_7, ↓zq_8, ↓zq_9, ↓zq_aa, zq_ab, zq_ac, zq_ad, zq_ae, zq_af, zq_ag, ↓zq_ah, ↓zq_ai, ↓zq_aj, zq_ak, ↓zq_al, ↓zq_am, e_b1, e_b2, x_o1, x_o2, w_C0, w_C1, w0, w1, w2, w3, t1, t2, t3, t4, a1, a2, a2_n, a3, a4, k1]
        · refine ⟨fun h => absurd h.2.2.2.1 a4, fun _ => ?_⟩
          simp [zq_a, zq_b, zq_c, zq_d, zq_e, zq_f, zq_g, zq_h, zq_i, zq_j, zq_k, zq_l, zq_m, zq_n, zq_o, zq_p, zq_q, zq_r, zq_s, zq_t, zq_u, zq_v, zq_w, zq_x, zq_y, zq_z, zq_A, zq_B, zq_C, zq_D, zq_E, zq_F, zq_G, zq_H, zq_I, zq_J, zq_K, zq_L, ↓zq_M, ↓zq_N, ↓zq_O, ↓zq_P, ↓zq_Q, ↓zq_R, zq_S, zq_T, zq_U, zq_V, zq_W, zq_X, zq_Y, zq_Z, zq_0, zq_1, zq_2, zq_3, zq_4, zq_5, ↓zq_6, ↓zq_7, ↓zq_8, ↓zq_9, ↓zq_aa, zq_ab, zq_ac, zq_ad, zq_ae, zq_af, zq_ag, ↓zq_ah, ↓zq_ai, ↓zq_aj, zq_ak, ↓zq_al, ↓zq_am, e_b1, e_b2, x_o1, x_o2, w_C0, w_C1, w0, w1, w2, t1, t2, t3, t4, a1, a2, a2_n, a3, a4]
    · refine ⟨fun h => absurd h.2.1 a2, fun _ => ?_⟩
      simp [zq_a, zq_b, zq_c, zq_d, zq_e, zq_f, zq_g, zq_h, zq_i, zq_j, zq_k, zq_l, zq_m, zq_n, zq_o, zq_p, zq_q, zq_r, zq_s, zq_t, zq_u, zq_v, zq_w, zq_x, zq_y, zq_z, zq_A, zq_B, zq_C, zq_D, zq_E, zq_F, zq_G, zq_H, zq_I, zq_J, zq_K, zq_L, ↓zq_M, ↓zq_N, ↓zq_O, ↓zq_P, ↓zq_Q, ↓zq_R, zq_S, zq_T, zq_U, zq_V, zq_W, zq_X, zq_Y, zq_Z, zq_0, zq_1, zq_2, zq_3, zq_4, zq_5, ↓zq_6, ↓zq_7, ↓zq_8, ↓zq_9, ↓zq_aa, zq_ab, zq_ac, zq_ad, zq_ae, zq_af, zq_ag, ↓zq_ah, ↓zq_ai, ↓zq_aj, zq_ak, ↓zq_al, ↓zq_am, e_b1, e_b2, x_o1, x_o2, w_C0, w_C1, w0, w1, w2, t1, t2, t3, t4, a1, a2, a2_n]
  · refine ⟨fun h => absurd h.1 a1, fun _ => ?_⟩
    simp [zq_a, zq_b, zq_c, zq_d, zq_e, zq_f, zq_g, zq_h, zq_i, zq_j, zq_k, zq_l, zq_m, zq_n, zq_o, zq_p, zq_q, zq_r, zq_s, zq_t, zq_u, zq_v, zq_w, zq_x, zq_y, zq_z, zq_A, zq_B, zq_C, zq_D, zq_E, zq_F, zq_G, zq_H, zq_I, zq_J, zq_K, zq_L, ↓zq_M, ↓zq_N, ↓zq_O, ↓zq_P, ↓zq_Q, ↓zq_R, zq_S, zq_T, zq_U, zq_V, zq_W, zq_X, zq_Y, zq_Z, zq_0, zq_1, zq_2, zq_3, zq_4, zq_5, ↓zq_6, ↓zq_7, ↓zq_8, ↓zq_9, ↓zq_aa, zq_ab, zq_ac, zq_ad, zq_ae, zq_af, zq_ag, ↓zq_ah, ↓zq_ai, ↓zq_aj, zq_ak, ↓zq_al, ↓zq_am, e_b1, e_b2, x_o1, x_o2, w_C0, w_C1, w0, w1, w2, t1, t2, t3, t4, a1]
/-- i points of the CELL are laid -/
def w_cs (N M : EM) (p f i : Nat) : Prop := (∀ id k, ¬ ((id = 19 ∨ id = 20) ∧ 6 * p ≤ k ∧ k < 6 * p + 6) → M id k = N id k) ∧ (∀ j, j < i → M 19 (6 * p + j) = N 167 (f + 2 * j) ∧ M 20 (6 * p + j) = N 167 (f + 2 * j + 1))
theorem w_csn {N M : EM} {p f i : Nat} (hi : i < 6) (h : w_cs N M p f i) : w_cs N (e_up (e_up M 19 (6 * p + i) (N 167 (f + 2 * i))) 20 (6 * p + i) (N 167 (f + 2 * i + 1))) p f (i + 1) := by
  obtain ⟨h1, h2⟩ := h
  refine ⟨fun id k hk => ?_, fun j hj => ?_⟩
  · rw [c_up_n (by omega), c_up_n (by omega)]
    exact h1 id k hk
  · by_cases e : j = i
    · subst e
      refine ⟨?_, c_up_s⟩
      rw [c_up_n (fun q => absurd q.1 (by decide))]
      exact c_up_s
    · obtain ⟨g1, g2⟩ := h2 j (by omega)
      refine ⟨?_, ?_⟩
      · rw [c_up_n (by omega), c_up_n (by omega)]; exact g1
      · rw [c_up_n (by omega), c_up_n (by omega)]; exact g2
theorem w_69l {p f n : Nat} (hp : p < 40) (hn : n ≤ 6) (hf : f + 2 * n ≤ 120) (N : EM) : ∀ (m i : Nat) (M : EM), i + m = n → w_cs N M p f i → ∃ M', E_V 69 24 [162, 9, (f : Int), (n : Int), (p : Int), (i : Int)] M = E_V 69 24 [162, 9, (f : Int), (n : Int), (p : Int), (n : Int)] M' ∧ w_cs N M' p f n := by
  intro m
  induction m with
  | zero =>
    intro i M hm hs
    have e : i = n := by omega
    subst e
    exact ⟨M, rfl, hs⟩
  | succ m ih =>
    intro i M hm hs
    obtain ⟨M', k1, c1⟩ := ih (i + 1) _ (by omega) (w_csn (by omega) hs)
    refine ⟨M', ?_, c1⟩
    refine Eq.trans ?_ k1
    have q : (i : Int) < (n : Int) := by omega
    have a1 : (p : Int) * 6 + (i : Int) = ((6 * p + i : Nat) : Int) := by omega
    have a2 : 6 * p + i < 240 := by omega
    have b1 : (f : Int) + 2 * (i : Int) = ((f + 2 * i : Nat) : Int) := by omega
    have b2 : f + 2 * i < 120 := by omega
    have b3 : (f : Int) + 2 * (i : Int) + 1 = ((f + 2 * i + 1 : Nat) : Int) := by omega
    have b4 : f + 2 * i + 1 < 120 := by omega
    have w1 : e_w ((p : Int) * 6) = (p : Int) * 6 := a_w_id (by omega) (by omega)
    have w2 : e_w ((p : Int) * 6 + (i : Int)) = (p : Int) * 6 + (i : Int) := a_w_id (by omega) (by omega)
    have w3 : e_w (2 * (i : Int)) = 2 * (i : Int) := a_w_id (by omega) (by omega)
    have w4 : e_w ((f : Int) + 2 * (i : Int)) = (f : Int) + 2 * (i : Int) := a_w_id (by omega) (by omega)
    have w5 : e_w ((f : Int) + 2 * (i : Int) + 1) = (f : Int) + 2 * (i : Int) + 1 := a_w_id (by omega) (by omega)
    have w6 : e_w ((i : Int) + 1) = (i : Int) + 1 := a_w_id (by omega) (by omega)
    have l1 := fun v M => w_layN (a := 19) (i := (p : Int) * 6 + (i : Int)) (n := 240) (by decide +kernel) (j := 6 * p + i) a1 a2 v M
    have l2 := fun v M => w_layN (a := 20) (i := (p : Int) * 6 + (i : Int)) (n := 240) (by decide +kernel) (j := 6 * p + i) a1 a2 v M
    have t1 := w_atN (a := 167) (i := (f : Int) + 2 * (i : Int)) (n := 120) (by decide +kernel) (j := f + 2 * i) b1 b2 M
    have t2 := fun v => w_atN (a := 167) (i := (f : Int) + 2 * (i : Int) + 1) (n := 120) (by decide +kernel) (j := f + 2 * i + 1) b3 b4 (e_up M 19 (6 * p + i) v)
    have z1 : M 167 (f + 2 * i) = N 167 (f + 2 * i) := hs.1 _ _ (by omega)
    have z2 : ∀ v, (e_up M 19 (6 * p + i) v) 167 (f + 2 * i + 1) = N 167 (f + 2 * i + 1) := fun v => (c_up_n (fun q => absurd q.1 (by decide))).trans (hs.1 _ _ (by omega))
    have t1' : E_C 146 [167, (f : Int) + 2 * (i : Int)] M = some (N 167 (f + 2 * i), M) := t1.trans (congrArg some (congrArg (·, M) z1))
    have t2' : ∀ v, E_C 146 [167, (f : Int) + 2 * (i : Int) + 1] (e_up M 19 (6 * p + i) v) = some (N 167 (f + 2 * i + 1), e_up M 19 (6 * p + i) v) := fun v => (t2 v).trans (congrArg some (congrArg (·, e_up M 19 (6 * p + i) v) (z2 v)))
    rw [E_V_eq]
    show e_tv E_C (E_V 69) e_t69_24 [162, 9, (f : Int), (n : Int), (p : Int), (i : Int)] M = _
    unfold e_t69_24
    simp [zq_a, zq_b, zq_c, zq_d, zq_e, zq_f, zq_g, zq_h, zq_i, zq_j, zq_k, zq_l, zq_m, zq_n, zq_o, zq_p, zq_q, zq_r, zq_s, zq_t, zq_u, zq_v, zq_w, zq_x, zq_y, zq_z, zq_A, zq_B, zq_C, zq_D, zq_E, zq_F, zq_G, zq_H, zq_I, zq_J, zq_K, zq_L, ↓zq_M, ↓zq_N, ↓zq_O, ↓zq_P, ↓zq_Q, ↓zq_R, zq_S, zq_T, zq_U, zq_V, zq_W, zq_X, zq_Y, zq_Z, zq_0, zq_1, zq_2, zq_3, zq_4, zq_5, ↓zq_6, ↓zq_7, ↓zq_8, ↓zq_9, ↓zq_aa, zq_ab, zq_ac, zq_ad, zq_ae, zq_af, zq_ag, ↓zq_ah, ↓zq_ai, ↓zq_aj, zq_ak, ↓zq_al, ↓zq_am, e_b1, e_b2, x_o1, x_o2, q, w_H1, w_C0, w_C1, w_aD, w1, w2, w3, w4, w5, w6, l1, l2, t1', t2']
/-- the numbers told make a CURVE -/
def w_cn (M : EM) (f m : Nat) : Prop := M 167 f = 0 ∧ M 167 (f + 2 * m) ≤ 60 ∧ M 167 (f + 1) ≠ 0 ∧ M 167 (f + 2 * m + 1) = 0 ∧ ∀ j, j < m → M 167 (f + 2 * j) < M 167 (f + 2 * (j + 1)) ∧ M 167 (f + 2 * (j + 1) + 1) < M 167 (f + 2 * j + 1)
theorem w_cvn {N M : EM} {p f m : Nat} (h : w_cs N M p f (m + 1)) : w_cv M p m ↔ w_cn N f m := by
  obtain ⟨h1, h2⟩ := h
  obtain ⟨a1, a2⟩ := h2 0 (by omega)
  obtain ⟨b1, b2⟩ := h2 m (by omega)
  have a1' : M 19 (6 * p) = N 167 f := a1
  have a2' : M 20 (6 * p) = N 167 (f + 1) := a2
  unfold w_cv w_cn w_ri
  rw [a1', a2', b1, b2]
  have e : (∀ j, j < m → M 19 (6 * p + j) < M 19 (6 * p + (j + 1)) ∧ M 20 (6 * p + (j + 1)) < M 20 (6 * p + j)) ↔ (∀ j, j < m → N 167 (f + 2 * j) < N 167 (f + 2 * (j + 1)) ∧ N 167 (f + 2 * (j + 1) + 1) < N 167 (f + 2 * j + 1)) := by
    refine ⟨fun h j hj => ?_, fun h j hj => ?_⟩
    · have := h j hj
      rw [(h2 j (by omega)).1, (h2 j (by omega)).2, (h2 (j + 1) (by omega)).1, (h2 (j + 1) (by omega)).2] at this
      exact this
    · rw [(h2 j (by omega)).1, (h2 j (by omega)).2, (h2 (j + 1) (by omega)).1, (h2 (j + 1) (by omega)).2]
      exact h j hj
  rw [e]
theorem w_69 {p f n : Nat} {M : EM} (hp : p < 40) (hf : f + 2 * n ≤ 120) (h0 : M 10 0 = p) : (¬ (2 ≤ n ∧ n ≤ 6) → E_C 69 [162, 9, (f : Int), (n : Int)] M = some (0, M)) ∧ (2 ≤ n ∧ n ≤ 6 → ∃ r N M', E_C 69 [162, 9, (f : Int), (n : Int)] M = some (r, M') ∧ w_js M N p 0 n f 0 ∧ w_cs N M' p f n ∧ ((r = 1 ∧ w_cn M f (n - 1)) ∨ (r = 0 ∧ ¬ w_cn M f (n - 1)))) := by
  have s0 : E_C 69 [162, 9, (f : Int), (n : Int)] M = e_tv E_C (E_V 69) e_t69_0 [162, 9, (f : Int), (n : Int), 0, 0] M := r_ent (u := 69) (as := [162, 9, (f : Int), (n : Int)]) (M := M) (decide_eq_true c_rd5)
  rw [s0]
  unfold e_t69_0
  refine ⟨fun h => ?_, fun h => ?_⟩
  · rcases x_le 2 (n : Int) with ⟨a1, a1_n⟩ | ⟨a1, a1_n⟩
    · have a2 : (6 : Int) < (n : Int) := by omega
      simp [zq_a, zq_b, zq_c, zq_d, zq_e, zq_f, zq_g, zq_h, zq_i, zq_j, zq_k, zq_l, zq_m, zq_n, zq_o, zq_p, zq_q, zq_r, zq_s, zq_t, zq_u, zq_v, zq_w, zq_x, zq_y, zq_z, zq_A, zq_B, zq_C, zq_D, zq_E, zq_F, zq_G, zq_H, zq_I, zq_J, zq_K, zq_L, ↓zq_M, ↓zq_N, ↓zq_O, ↓zq_P, ↓zq_Q, ↓zq_R, zq_S, zq_T, zq_U, zq_V, zq_W, zq_X, zq_Y, zq_Z, zq_0, zq_1, zq_2, zq_3, zq_4, zq_5, ↓zq_6, ↓zq_7, ↓zq_8, ↓zq_9, ↓zq_aa, zq_ab, zq_ac, zq_ad, zq_ae, zq_af, zq_ag, ↓zq_ah, ↓zq_ai, ↓zq_aj, zq_ak, ↓zq_al, ↓zq_am, e_b1, e_b2, x_o1, x_o2, a1, a1_n, a2]
      try omega
    · simp [zq_a, zq_b, zq_c, zq_d, zq_e, zq_f, zq_g, zq_h, zq_i, zq_j, zq_k, zq_l, zq_m, zq_n, zq_o, zq_p, zq_q, zq_r, zq_s, zq_t, zq_u, zq_v, zq_w, zq_x, zq_y, zq_z, zq_A, zq_B, zq_C, zq_D, zq_E, zq_F, zq_G, zq_H, zq_I, zq_J, zq_K, zq_L, ↓zq_M, ↓zq_N, ↓zq_O, ↓zq_P, ↓zq_Q, ↓zq_R, zq_S, zq_T, zq_U, zq_V, zq_W, zq_X, zq_Y, zq_Z, zq_0, zq_1, zq_2, zq_3, zq_4, zq_5, ↓zq_6, ↓zq_7, ↓zq_8, ↓zq_9, ↓zq_aa, zq_ab, zq_ac, zq_ad, zq_ae, zq_af, zq_ag, ↓zq_ah, ↓zq_ai, ↓zq_aj, zq_ak, ↓zq_al, ↓zq_am, e_b1, e_b2, x_o1, x_o2, a1, a1_n]
      try omega
  · obtain ⟨m, rfl⟩ : ∃ m, n = m + 1 := ⟨n - 1, by omega⟩
    have k2 := w_49 (k := 0) (t := ((m + 1 : Nat) : Int)) h0 hp
    have J := w_js0 (M0 := M) (K := 0) (t := ((m + 1 : Nat) : Int)) (f := f) hp
    obtain ⟨M', k1, c1⟩ := w_69l hp (n := m + 1) (by omega) hf (w_b49 M p 0 ((m + 1 : Nat) : Int)) (m + 1) 0 (w_b49 M p 0 ((m + 1 : Nat) : Int)) (by omega) ⟨fun _ _ _ => rfl, fun j hj => absurd hj (Nat.not_lt_zero _)⟩
    have k1' : E_V 69 24 [162, 9, (f : Int), ((m + 1 : Nat) : Int), (p : Int), 0] (w_b49 M p 0 ((m + 1 : Nat) : Int)) = E_V 69 24 [162, 9, (f : Int), ((m + 1 : Nat) : Int), (p : Int), ((m + 1 : Nat) : Int)] M' := k1
    have e1 : ∀ k, w_b49 M p 0 ((m + 1 : Nat) : Int) 167 k = M 167 k := fun k => J.2.2.2.2.2.2.2.2.2.2.2.2 167 k (by omega) (by omega) (by omega) (by omega)
    have cc : w_cv M' p m ↔ w_cn M f m := (w_cvn c1).trans (by unfold w_cn; simp only [e1])
    have k3 := w_36 (p := p) (m := m) (M := M') hp (by omega)
    have a1 : (2 : Int) ≤ ((m + 1 : Nat) : Int) := by omega
    have a1_n : ¬ (((m + 1 : Nat) : Int) < 2) := by omega
    have a2 : ¬ ((6 : Int) < ((m + 1 : Nat) : Int)) := by omega
    have fin : ∀ r, E_C 36 [18, (p : Int), ((m + 1 : Nat) : Int)] M' = some (r, M') → e_tv E_C (E_V 69) e_t69_0 [162, 9, (f : Int), ((m + 1 : Nat) : Int), 0, 0] M = some (r, M') := by
      intro r hr
      have k4 : E_V 69 24 [162, 9, (f : Int), ((m + 1 : Nat) : Int), (p : Int), ((m + 1 : Nat) : Int)] M' = some (r, M') := by
        generalize ((m + 1 : Nat) : Int) = n at hr ⊢
        rw [E_V_eq]
        show e_tv E_C (E_V 69) e_t69_24 [162, 9, (f : Int), n, (p : Int), n] M' = _
        unfold e_t69_24
        simp [zq_a, zq_b, zq_c, zq_d, zq_e, zq_f, zq_g, zq_h, zq_i, zq_j, zq_k, zq_l, zq_m, zq_n, zq_o, zq_p, zq_q, zq_r, zq_s, zq_t, zq_u, zq_v, zq_w, zq_x, zq_y, zq_z, zq_A, zq_B, zq_C, zq_D, zq_E, zq_F, zq_G, zq_H, zq_I, zq_J, zq_K, zq_L, ↓zq_M, ↓zq_N, ↓zq_O, ↓zq_P, ↓zq_Q, ↓zq_R, zq_S, zq_T, zq_U, zq_V, zq_W, zq_X, zq_Y, zq_Z, zq_0, zq_1, zq_2, zq_3, zq_4, zq_5, ↓zq_6, ↓zq_7, ↓zq_8, ↓zq_9, ↓zq_aa, zq_ab, zq_ac, zq_ad, zq_ae, zq_af, zq_ag, ↓zq_ah, ↓zq_ai, ↓zq_aj, zq_ak, ↓zq_al, ↓zq_am, e_b1, e_b2, x_o1, x_o2, w_H1, hr]
      rw [k4] at k1'
      unfold e_t69_0
      generalize ((m + 1 : Nat) : Int) = n at a1 a1_n a2 k2 k1' ⊢
      simp [zq_a, zq_b, zq_c, zq_d, zq_e, zq_f, zq_g, zq_h, zq_i, zq_j, zq_k, zq_l, zq_m, zq_n, zq_o, zq_p, zq_q, zq_r, zq_s, zq_t, zq_u, zq_v, zq_w, zq_x, zq_y, zq_z, zq_A, zq_B, zq_C, zq_D, zq_E, zq_F, zq_G, zq_H, zq_I, zq_J, zq_K, zq_L, ↓zq_M, ↓zq_N, ↓zq_O, ↓zq_P, ↓zq_Q, ↓zq_R, zq_S, zq_T, zq_U, zq_V, zq_W, zq_X, zq_Y, zq_Z, zq_0, zq_1, zq_2, zq_3, zq_4, zq_5, ↓zq_6, ↓zq_7, ↓zq_8, ↓zq_9, ↓zq_aa, zq_ab, zq_ac, zq_ad, zq_ae, zq_af, zq_ag, ↓zq_ah, ↓zq_ai, ↓zq_aj, zq_ak, ↓zq_al, ↓zq_am, e_b1, e_b2, x_o1, x_o2, a1, a1_n, a2, k2, k1']
    by_cases c : w_cn M f m
    · exact ⟨1, _, M', fin 1 (k3.1 (cc.mpr c)), J, c1, Or.inl ⟨rfl, c⟩⟩
    · exact ⟨0, _, M', fin 0 (k3.2 (fun h => c (cc.mp h))), J, c1, Or.inr ⟨rfl, c⟩⟩
end
