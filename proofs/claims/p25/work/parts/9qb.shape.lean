/-! the class's reader, byte by byte: exactly -/
theorem w_f0 (M : EM) : e_gf 320 [162] M = some (M 162 0) := c_gf c_rd5 (by decide +kernel)
theorem w_f1 (M : EM) : e_gf 321 [162] M = some (M 162 1) := c_gf c_rd5 (by decide +kernel)
theorem w_f2 (M : EM) : e_gf 322 [162] M = some (M 162 2) := c_gf c_rd5 (by decide +kernel)
theorem w_f3 (M : EM) : e_gf 323 [162] M = some (M 162 3) := c_gf c_rd5 (by decide +kernel)
theorem w_f4 (M : EM) : e_gf 324 [162] M = some (M 162 4) := c_gf c_rd5 (by decide +kernel)
theorem w_f5 (M : EM) : e_gf 325 [162] M = some (M 162 5) := c_gf c_rd5 (by decide +kernel)
theorem w_f6 (M : EM) : e_gf 326 [162] M = some (M 162 6) := c_gf c_rd5 (by decide +kernel)
theorem w_f7 (M : EM) : e_gf 327 [162] M = some (M 162 7) := c_gf c_rd5 (by decide +kernel)
theorem w_f8 (M : EM) : e_gf 328 [162] M = some (M 162 8) := c_gf c_rd5 (by decide +kernel)
theorem w_p0 (v : Int) (M : EM) : e_pf 320 [162, v] M = some (e_up M 162 0 v) := c_pf c_rd5 (by decide +kernel)
theorem w_p1 (v : Int) (M : EM) : e_pf 321 [162, v] M = some (e_up M 162 1 v) := c_pf c_rd5 (by decide +kernel)
theorem w_p2 (v : Int) (M : EM) : e_pf 322 [162, v] M = some (e_up M 162 2 v) := c_pf c_rd5 (by decide +kernel)
theorem w_p3 (v : Int) (M : EM) : e_pf 323 [162, v] M = some (e_up M 162 3 v) := c_pf c_rd5 (by decide +kernel)
theorem w_p4 (v : Int) (M : EM) : e_pf 324 [162, v] M = some (e_up M 162 4 v) := c_pf c_rd5 (by decide +kernel)
theorem w_p5 (v : Int) (M : EM) : e_pf 325 [162, v] M = some (e_up M 162 5 v) := c_pf c_rd5 (by decide +kernel)
theorem w_p6 (v : Int) (M : EM) : e_pf 326 [162, v] M = some (e_up M 162 6 v) := c_pf c_rd5 (by decide +kernel)
theorem w_p7 (v : Int) (M : EM) : e_pf 327 [162, v] M = some (e_up M 162 7 v) := c_pf c_rd5 (by decide +kernel)
theorem w_p8 (v : Int) (M : EM) : e_pf 328 [162, v] M = some (e_up M 162 8 v) := c_pf c_rd5 (by decide +kernel)
theorem w_a9 (M : EM) : e_gf 329 [162] M = some 163 := p_g 329 162 163 M (by decide +kernel)
theorem w_aA (M : EM) : e_gf 330 [162] M = some 164 := p_g 330 162 164 M (by decide +kernel)
theorem w_aB (M : EM) : e_gf 331 [162] M = some 165 := p_g 331 162 165 M (by decide +kernel)
theorem w_aC (M : EM) : e_gf 332 [162] M = some 166 := p_g 332 162 166 M (by decide +kernel)
theorem w_aD (M : EM) : e_gf 333 [162] M = some 167 := p_g 333 162 167 M (by decide +kernel)
theorem w_aE (M : EM) : e_gf 334 [162] M = some 168 := p_g 334 162 168 M (by decide +kernel)
theorem w_aF (M : EM) : e_gf 335 [162] M = some 169 := p_g 335 162 169 M (by decide +kernel)
theorem w_layN {a i : Int} {n : Nat} (h : 8 ≤ a ∧ a.toNat < e_N ∧ e_sh a.toNat = (100, n)) {j : Nat} (e : i = j) (hj : j < n) (v : Int) (M : EM) : E_C 147 [a, i, v] M = some (0, e_up M a.toNat j v) := by
  subst e
  rw [p_layd h ⟨by omega, by omega⟩]
  rfl
theorem w_atN {a i : Int} {n : Nat} (h : 8 ≤ a ∧ a.toNat < e_N ∧ e_sh a.toNat = (100, n)) {j : Nat} (e : i = j) (hj : j < n) (M : EM) : E_C 146 [a, i] M = some (M a.toNat j, M) := by
  subst e
  rw [p_at h ⟨by omega, by omega⟩]
  rfl
def w_M0 (M : EM) (c : Int) : EM := e_up (e_up (e_up (e_up (e_up (e_up (e_up M 163 (M 162 7).toNat (M 162 1)) 164 (M 162 7).toNat c) 162 3 c) 162 4 0) 162 5 0) 162 6 1) 162 2 1
def w_M1 (M : EM) (d : Int) : EM := e_up (e_up (e_up (e_up (e_up M 167 (M 162 8).toNat d) 168 (M 162 8).toNat (M 162 6 - 1)) 169 (M 162 8).toNat (M 162 5)) 162 8 (M 162 8 + 1)) 162 2 (if d = 0 then 3 else 2)
def w_M2 (M : EM) : EM := e_up (e_up M 162 4 1) 162 2 1
def w_M3 (M : EM) : EM := e_up (e_up M 162 5 0) 162 2 3
def w_M4 (M : EM) : EM := e_up (e_up (if M 162 5 = 0 then e_up M 162 6 (M 162 6 + 1) else M) 162 4 0) 162 2 1
def w_M5 (M : EM) : EM := e_up (e_up (e_up (e_up M 166 (M 162 7).toNat (M 162 6)) 162 7 (M 162 7 + 1)) 165 (M 162 7 + 1).toNat (M 162 8)) 162 2 0
def w_M6 (M : EM) (c : Int) : EM := e_up (e_up M 167 (M 162 8 - 1).toNat (10 * M 167 (M 162 8 - 1).toNat + c - 48)) 162 2 3
theorem w_r (u : Nat) (as : List Int) (M : EM) (h : e_rok u as = true) : E_C u as M = e_tv E_C (E_V u) (e_tr u 0) (e_pad u as) M := r_ent h
theorem w_61 {c : Int} {M : EM} (h7 : 0 ≤ M 162 7 ∧ M 162 7 < 120) : E_C 61 [162, c] M = if c = 99 ∨ c = 114 ∨ c = 102 ∨ c = 98 then some (1, w_M0 M c) else some (0, M) := by
  have s0 : E_C 61 [162, c] M = e_tv E_C (E_V 61) e_t61_0 [162, c] M := r_ent (u := 61) (as := [162, c]) (M := M) (decide_eq_true c_rd5)
  rw [s0]
  unfold e_t61_0
  have l0 := fun v M' => p_layd (a := 163) (i := M 162 7) (v := v) (n := 120) (by decide +kernel) h7 M'
  have l1 := fun v M' => p_layd (a := 164) (i := M 162 7) (v := v) (n := 120) (by decide +kernel) h7 M'
  unfold w_M0
  by_cases q1 : c = 99
  · simp [zq_a, zq_b, zq_c, zq_d, zq_e, zq_f, zq_g, zq_h, zq_i, zq_j, zq_k, zq_l, zq_m, zq_n, zq_o, zq_p, zq_q, zq_r, zq_s, zq_t, zq_u, zq_v, zq_w, zq_x, zq_y, zq_z, zq_A, zq_B, zq_C, zq_D, zq_E, zq_F, zq_G, zq_H, zq_I, zq_J, zq_K, zq_L, ↓zq_M, ↓zq_N, ↓zq_O, ↓zq_P, ↓zq_Q, ↓zq_R, zq_S, zq_T, zq_U, zq_V, zq_W, zq_X, zq_Y, zq_Z, zq_0, zq_1, zq_2, zq_3, zq_4, zq_5, ↓zq_6, ↓zq_7, ↓zq_8, ↓zq_9, ↓zq_aa, zq_ab, zq_ac, zq_ad, zq_ae, zq_af, zq_ag, ↓zq_ah, ↓zq_ai, ↓zq_aj, zq_ak, ↓zq_al, ↓zq_am, e_b1, e_b2, x_o1, x_o2, w_f1, w_f7, w_a9, w_aA, w_p2, w_p3, w_p4, w_p5, w_p6, l0, l1, c_up_n, q1]
  by_cases q2 : c = 114
  · simp [zq_a, zq_b, zq_c, zq_d, zq_e, zq_f, zq_g, zq_h, zq_i, zq_j, zq_k, zq_l, zq_m, zq_n, zq_o, zq_p, zq_q, zq_r, zq_s, zq_t, zq_u, zq_v, zq_w, zq_x, zq_y, zq_z, zq_A, zq_B, zq_C, zq_D, zq_E, zq_F, zq_G, zq_H, zq_I, zq_J, zq_K, zq_L, ↓zq_M, ↓zq_N, ↓zq_O, ↓zq_P, ↓zq_Q, ↓zq_R, zq_S, zq_T, zq_U, zq_V, zq_W, zq_X, zq_Y, zq_Z, zq_0, zq_1, zq_2, zq_3, zq_4, zq_5, ↓zq_6, ↓zq_7, ↓zq_8, ↓zq_9, ↓zq_aa, zq_ab, zq_ac, zq_ad, zq_ae, zq_af, zq_ag, ↓zq_ah, ↓zq_ai, ↓zq_aj, zq_ak, ↓zq_al, ↓zq_am, e_b1, e_b2, x_o1, x_o2, w_f1, w_f7, w_a9, w_aA, w_p2, w_p3, w_p4, w_p5, w_p6, l0, l1, c_up_n, q2]
  by_cases q3 : c = 102
  · simp [zq_a, zq_b, zq_c, zq_d, zq_e, zq_f, zq_g, zq_h, zq_i, zq_j, zq_k, zq_l, zq_m, zq_n, zq_o, zq_p, zq_q, zq_r, zq_s, zq_t, zq_u, zq_v, zq_w, zq_x, zq_y, zq_z, zq_A, zq_B, zq_C, zq_D, zq_E, zq_F, zq_G, zq_H, zq_I, zq_J, zq_K, zq_L, ↓zq_M, ↓zq_N, ↓zq_O, ↓zq_P, ↓zq_Q, ↓zq_R, zq_S, zq_T, zq_U, zq_V, zq_W, zq_X, zq_Y, zq_Z, zq_0, zq_1, zq_2, zq_3, zq_4, zq_5, ↓zq_6, ↓zq_7, ↓zq_8, ↓zq_9, ↓zq_aa, zq_ab, zq_ac, zq_ad, zq_ae, zq_af, zq_ag, ↓zq_ah, ↓zq_ai, ↓zq_aj, zq_ak, ↓zq_al, ↓zq_am, e_b1, e_b2, x_o1, x_o2, w_f1, w_f7, w_a9, w_aA, w_p2, w_p3, w_p4, w_p5, w_p6, l0, l1, c_up_n, q3]
  by_cases q4 : c = 98
  · simp [zq_a, zq_b, zq_c, zq_d, zq_e, zq_f, zq_g, zq_h, zq_i, zq_j, zq_k, zq_l, zq_m, zq_n, zq_o, zq_p, zq_q, zq_r, zq_s, zq_t, zq_u, zq_v, zq_w, zq_x, zq_y, zq_z, zq_A, zq_B, zq_C, zq_D, zq_E, zq_F, zq_G, zq_H, zq_I, zq_J, zq_K, zq_L, ↓zq_M, ↓zq_N, ↓zq_O, ↓zq_P, ↓zq_Q, ↓zq_R, zq_S, zq_T, zq_U, zq_V, zq_W, zq_X, zq_Y, zq_Z, zq_0, zq_1, zq_2, zq_3, zq_4, zq_5, ↓zq_6, ↓zq_7, ↓zq_8, ↓zq_9, ↓zq_aa, zq_ab, zq_ac, zq_ad, zq_ae, zq_af, zq_ag, ↓zq_ah, ↓zq_ai, ↓zq_aj, zq_ak, ↓zq_al, ↓zq_am, e_b1, e_b2, x_o1, x_o2, w_f1, w_f7, w_a9, w_aA, w_p2, w_p3, w_p4, w_p5, w_p6, l0, l1, c_up_n, q4]
  simp [zq_a, zq_b, zq_c, zq_d, zq_e, zq_f, zq_g, zq_h, zq_i, zq_j, zq_k, zq_l, zq_m, zq_n, zq_o, zq_p, zq_q, zq_r, zq_s, zq_t, zq_u, zq_v, zq_w, zq_x, zq_y, zq_z, zq_A, zq_B, zq_C, zq_D, zq_E, zq_F, zq_G, zq_H, zq_I, zq_J, zq_K, zq_L, ↓zq_M, ↓zq_N, ↓zq_O, ↓zq_P, ↓zq_Q, ↓zq_R, zq_S, zq_T, zq_U, zq_V, zq_W, zq_X, zq_Y, zq_Z, zq_0, zq_1, zq_2, zq_3, zq_4, zq_5, ↓zq_6, ↓zq_7, ↓zq_8, ↓zq_9, ↓zq_aa, zq_ab, zq_ac, zq_ad, zq_ae, zq_af, zq_ag, ↓zq_ah, ↓zq_ai, ↓zq_aj, zq_ak, ↓zq_al, ↓zq_am, e_b1, e_b2, x_o1, x_o2, q1, q2, q3, q4]
theorem w_62 {d : Int} {M : EM} (h8 : 0 ≤ M 162 8 ∧ M 162 8 < 120) (h6 : 1 ≤ M 162 6 ∧ M 162 6 ≤ 130) : E_C 62 [162, d] M = some (1, w_M1 M d) := by
  have s0 : E_C 62 [162, d] M = e_tv E_C (E_V 62) e_t62_0 [162, d] M := r_ent (u := 62) (as := [162, d]) (M := M) (decide_eq_true c_rd5)
  rw [s0]
  unfold e_t62_0
  have l0 := fun v M' => p_layd (a := 167) (i := M 162 8) (v := v) (n := 120) (by decide +kernel) h8 M'
  have l1 := fun v M' => p_layd (a := 168) (i := M 162 8) (v := v) (n := 120) (by decide +kernel) h8 M'
  have l2 := fun v M' => p_layd (a := 169) (i := M 162 8) (v := v) (n := 120) (by decide +kernel) h8 M'
  have w1 : e_w (M 162 6 - 1) = M 162 6 - 1 := a_w_id (by omega) (by omega)
  have w2 : e_w (M 162 8 + 1) = M 162 8 + 1 := a_w_id (by omega) (by omega)
  unfold w_M1
  by_cases q : d = 0
  · simp [zq_a, zq_b, zq_c, zq_d, zq_e, zq_f, zq_g, zq_h, zq_i, zq_j, zq_k, zq_l, zq_m, zq_n, zq_o, zq_p, zq_q, zq_r, zq_s, zq_t, zq_u, zq_v, zq_w, zq_x, zq_y, zq_z, zq_A, zq_B, zq_C, zq_D, zq_E, zq_F, zq_G, zq_H, zq_I, zq_J, zq_K, zq_L, ↓zq_M, ↓zq_N, ↓zq_O, ↓zq_P, ↓zq_Q, ↓zq_R, zq_S, zq_T, zq_U, zq_V, zq_W, zq_X, zq_Y, zq_Z, zq_0, zq_1, zq_2, zq_3, zq_4, zq_5, ↓zq_6, ↓zq_7, ↓zq_8, ↓zq_9, ↓zq_aa, zq_ab, zq_ac, zq_ad, zq_ae, zq_af, zq_ag, ↓zq_ah, ↓zq_ai, ↓zq_aj, zq_ak, ↓zq_al, ↓zq_am, e_b1, e_b2, x_o1, x_o2, w_f5, w_f6, w_f8, w_aD, w_aE, w_aF, w_p2, w_p8, l0, l1, l2, w1, w2, c_up_n, q]
  · simp [zq_a, zq_b, zq_c, zq_d, zq_e, zq_f, zq_g, zq_h, zq_i, zq_j, zq_k, zq_l, zq_m, zq_n, zq_o, zq_p, zq_q, zq_r, zq_s, zq_t, zq_u, zq_v, zq_w, zq_x, zq_y, zq_z, zq_A, zq_B, zq_C, zq_D, zq_E, zq_F, zq_G, zq_H, zq_I, zq_J, zq_K, zq_L, ↓zq_M, ↓zq_N, ↓zq_O, ↓zq_P, ↓zq_Q, ↓zq_R, zq_S, zq_T, zq_U, zq_V, zq_W, zq_X, zq_Y, zq_Z, zq_0, zq_1, zq_2, zq_3, zq_4, zq_5, ↓zq_6, ↓zq_7, ↓zq_8, ↓zq_9, ↓zq_aa, zq_ab, zq_ac, zq_ad, zq_ae, zq_af, zq_ag, ↓zq_ah, ↓zq_ai, ↓zq_aj, zq_ak, ↓zq_al, ↓zq_am, e_b1, e_b2, x_o1, x_o2, w_f5, w_f6, w_f8, w_aD, w_aE, w_aF, w_p2, w_p8, l0, l1, l2, w1, w2, c_up_n, q]
theorem w_63 {c : Int} {M : EM} : E_C 63 [162, c] M = if c = 91 ∧ M 162 3 = 114 ∧ M 162 5 = 0 then some (1, e_up M 162 5 1) else some (0, M) := by
  have s0 : E_C 63 [162, c] M = e_tv E_C (E_V 63) e_t63_0 [162, c] M := r_ent (u := 63) (as := [162, c]) (M := M) (decide_eq_true c_rd5)
  rw [s0]
  unfold e_t63_0
  by_cases q1 : c = 91
  · by_cases q2 : M 162 3 = 114
    · by_cases q3 : M 162 5 = 0
      · simp [zq_a, zq_b, zq_c, zq_d, zq_e, zq_f, zq_g, zq_h, zq_i, zq_j, zq_k, zq_l, zq_m, zq_n, zq_o, zq_p, zq_q, zq_r, zq_s, zq_t, zq_u, zq_v, zq_w, zq_x, zq_y, zq_z, zq_A, zq_B, zq_C, zq_D, zq_E, zq_F, zq_G, zq_H, zq_I, zq_J, zq_K, zq_L, ↓zq_M, ↓zq_N, ↓zq_O, ↓zq_P, ↓zq_Q, ↓zq_R, zq_S, zq_T, zq_U, zq_V, zq_W, zq_X, zq_Y, zq_Z, zq_0, zq_1, zq_2, zq_3, zq_4, zq_5, ↓zq_6, ↓zq_7, ↓zq_8, ↓zq_9, ↓zq_aa, zq_ab, zq_ac, zq_ad, zq_ae, zq_af, zq_ag, ↓zq_ah, ↓zq_ai, ↓zq_aj, zq_ak, ↓zq_al, ↓zq_am, e_b1, e_b2, x_o1, x_o2, w_f3, w_f5, w_p5, q1, q2, q3]
      · simp [zq_a, zq_b, zq_c, zq_d, zq_e, zq_f, zq_g, zq_h, zq_i, zq_j, zq_k, zq_l, zq_m, zq_n, zq_o, zq_p, zq_q, zq_r, zq_s, zq_t, zq_u, zq_v, zq_w, zq_x, zq_y, zq_z, zq_A, zq_B, zq_C, zq_D, zq_E, zq_F, zq_G, zq_H, zq_I, zq_J, zq_K, zq_L, ↓zq_M, ↓zq_N, ↓zq_O, ↓zq_P, ↓zq_Q, ↓zq_R, zq_S, zq_T, zq_U, zq_V, zq_W, zq_X, zq_Y, zq_Z, zq_0, zq_1, zq_2, zq_3, zq_4, zq_5, ↓zq_6, ↓zq_7, ↓zq_8, ↓zq_9, ↓zq_aa, zq_ab, zq_ac, zq_ad, zq_ae, zq_af, zq_ag, ↓zq_ah, ↓zq_ai, ↓zq_aj, zq_ak, ↓zq_al, ↓zq_am, e_b1, e_b2, x_o1, x_o2, w_f3, w_f5, w_p5, q1, q2, q3]
    · simp [zq_a, zq_b, zq_c, zq_d, zq_e, zq_f, zq_g, zq_h, zq_i, zq_j, zq_k, zq_l, zq_m, zq_n, zq_o, zq_p, zq_q, zq_r, zq_s, zq_t, zq_u, zq_v, zq_w, zq_x, zq_y, zq_z, zq_A, zq_B, zq_C, zq_D, zq_E, zq_F, zq_G, zq_H, zq_I, zq_J, zq_K, zq_L, ↓zq_M, ↓zq_N, ↓zq_O, ↓zq_P, ↓zq_Q, ↓zq_R, zq_S, zq_T, zq_U, zq_V, zq_W, zq_X, zq_Y, zq_Z, zq_0, zq_1, zq_2, zq_3, zq_4, zq_5, ↓zq_6, ↓zq_7, ↓zq_8, ↓zq_9, ↓zq_aa, zq_ab, zq_ac, zq_ad, zq_ae, zq_af, zq_ag, ↓zq_ah, ↓zq_ai, ↓zq_aj, zq_ak, ↓zq_al, ↓zq_am, e_b1, e_b2, x_o1, x_o2, w_f3, w_f5, w_p5, q1, q2]
  · simp [zq_a, zq_b, zq_c, zq_d, zq_e, zq_f, zq_g, zq_h, zq_i, zq_j, zq_k, zq_l, zq_m, zq_n, zq_o, zq_p, zq_q, zq_r, zq_s, zq_t, zq_u, zq_v, zq_w, zq_x, zq_y, zq_z, zq_A, zq_B, zq_C, zq_D, zq_E, zq_F, zq_G, zq_H, zq_I, zq_J, zq_K, zq_L, ↓zq_M, ↓zq_N, ↓zq_O, ↓zq_P, ↓zq_Q, ↓zq_R, zq_S, zq_T, zq_U, zq_V, zq_W, zq_X, zq_Y, zq_Z, zq_0, zq_1, zq_2, zq_3, zq_4, zq_5, ↓zq_6, ↓zq_7, ↓zq_8, ↓zq_9, ↓zq_aa, zq_ab, zq_ac, zq_ad, zq_ae, zq_af, zq_ag, ↓zq_ah, ↓zq_ai, ↓zq_aj, zq_ak, ↓zq_al, ↓zq_am, e_b1, e_b2, x_o1, x_o2, w_f3, w_f5, w_p5, q1]
theorem w_64 {M : EM} : E_C 64 [162] M = if M 162 3 = 99 ∧ M 162 4 = 0 then some (1, w_M2 M) else some (0, M) := by
  have s0 : E_C 64 [162] M = e_tv E_C (E_V 64) e_t64_0 [162] M := r_ent (u := 64) (as := [162]) (M := M) (decide_eq_true c_rd5)
  rw [s0]
  unfold e_t64_0 w_M2
  by_cases q1 : M 162 3 = 99
  · by_cases q2 : M 162 4 = 0
    · simp [zq_a, zq_b, zq_c, zq_d, zq_e, zq_f, zq_g, zq_h, zq_i, zq_j, zq_k, zq_l, zq_m, zq_n, zq_o, zq_p, zq_q, zq_r, zq_s, zq_t, zq_u, zq_v, zq_w, zq_x, zq_y, zq_z, zq_A, zq_B, zq_C, zq_D, zq_E, zq_F, zq_G, zq_H, zq_I, zq_J, zq_K, zq_L, ↓zq_M, ↓zq_N, ↓zq_O, ↓zq_P, ↓zq_Q, ↓zq_R, zq_S, zq_T, zq_U, zq_V, zq_W, zq_X, zq_Y, zq_Z, zq_0, zq_1, zq_2, zq_3, zq_4, zq_5, ↓zq_6, ↓zq_7, ↓zq_8, ↓zq_9, ↓zq_aa, zq_ab, zq_ac, zq_ad, zq_ae, zq_af, zq_ag, ↓zq_ah, ↓zq_ai, ↓zq_aj, zq_ak, ↓zq_al, ↓zq_am, e_b1, e_b2, x_o1, x_o2, w_f3, w_f4, w_p4, w_p2, q1, q2]
    · simp [zq_a, zq_b, zq_c, zq_d, zq_e, zq_f, zq_g, zq_h, zq_i, zq_j, zq_k, zq_l, zq_m, zq_n, zq_o, zq_p, zq_q, zq_r, zq_s, zq_t, zq_u, zq_v, zq_w, zq_x, zq_y, zq_z, zq_A, zq_B, zq_C, zq_D, zq_E, zq_F, zq_G, zq_H, zq_I, zq_J, zq_K, zq_L, ↓zq_M, ↓zq_N, ↓zq_O, ↓zq_P, ↓zq_Q, ↓zq_R, zq_S, zq_T, zq_U, zq_V, zq_W, zq_X, zq_Y, zq_Z, zq_0, zq_1, zq_2, zq_3, zq_4, zq_5, ↓zq_6, ↓zq_7, ↓zq_8, ↓zq_9, ↓zq_aa, zq_ab, zq_ac, zq_ad, zq_ae, zq_af, zq_ag, ↓zq_ah, ↓zq_ai, ↓zq_aj, zq_ak, ↓zq_al, ↓zq_am, e_b1, e_b2, x_o1, x_o2, w_f3, w_f4, w_p4, w_p2, q1, q2]
  · simp [zq_a, zq_b, zq_c, zq_d, zq_e, zq_f, zq_g, zq_h, zq_i, zq_j, zq_k, zq_l, zq_m, zq_n, zq_o, zq_p, zq_q, zq_r, zq_s, zq_t, zq_u, zq_v, zq_w, zq_x, zq_y, zq_z, zq_A, zq_B, zq_C, zq_D, zq_E, zq_F, zq_G, zq_H, zq_I, zq_J, zq_K, zq_L, ↓zq_M, ↓zq_N, ↓zq_O, ↓zq_P, ↓zq_Q, ↓zq_R, zq_S, zq_T, zq_U, zq_V, zq_W, zq_X, zq_Y, zq_Z, zq_0, zq_1, zq_2, zq_3, zq_4, zq_5, ↓zq_6, ↓zq_7, ↓zq_8, ↓zq_9, ↓zq_aa, zq_ab, zq_ac, zq_ad, zq_ae, zq_af, zq_ag, ↓zq_ah, ↓zq_ai, ↓zq_aj, zq_ak, ↓zq_al, ↓zq_am, e_b1, e_b2, x_o1, x_o2, w_f3, w_f4, w_p4, w_p2, q1]
theorem w_65 {M : EM} : E_C 65 [162] M = if M 162 5 ≠ 0 then some (1, w_M3 M) else some (0, M) := by
  have s0 : E_C 65 [162] M = e_tv E_C (E_V 65) e_t65_0 [162] M := r_ent (u := 65) (as := [162]) (M := M) (decide_eq_true c_rd5)
  rw [s0]
  unfold e_t65_0 w_M3
  by_cases q1 : M 162 5 = 0
  · simp [zq_a, zq_b, zq_c, zq_d, zq_e, zq_f, zq_g, zq_h, zq_i, zq_j, zq_k, zq_l, zq_m, zq_n, zq_o, zq_p, zq_q, zq_r, zq_s, zq_t, zq_u, zq_v, zq_w, zq_x, zq_y, zq_z, zq_A, zq_B, zq_C, zq_D, zq_E, zq_F, zq_G, zq_H, zq_I, zq_J, zq_K, zq_L, ↓zq_M, ↓zq_N, ↓zq_O, ↓zq_P, ↓zq_Q, ↓zq_R, zq_S, zq_T, zq_U, zq_V, zq_W, zq_X, zq_Y, zq_Z, zq_0, zq_1, zq_2, zq_3, zq_4, zq_5, ↓zq_6, ↓zq_7, ↓zq_8, ↓zq_9, ↓zq_aa, zq_ab, zq_ac, zq_ad, zq_ae, zq_af, zq_ag, ↓zq_ah, ↓zq_ai, ↓zq_aj, zq_ak, ↓zq_al, ↓zq_am, e_b1, e_b2, x_o1, x_o2, w_f5, w_p5, w_p2, q1]
  · simp [zq_a, zq_b, zq_c, zq_d, zq_e, zq_f, zq_g, zq_h, zq_i, zq_j, zq_k, zq_l, zq_m, zq_n, zq_o, zq_p, zq_q, zq_r, zq_s, zq_t, zq_u, zq_v, zq_w, zq_x, zq_y, zq_z, zq_A, zq_B, zq_C, zq_D, zq_E, zq_F, zq_G, zq_H, zq_I, zq_J, zq_K, zq_L, ↓zq_M, ↓zq_N, ↓zq_O, ↓zq_P, ↓zq_Q, ↓zq_R, zq_S, zq_T, zq_U, zq_V, zq_W, zq_X, zq_Y, zq_Z, zq_0, zq_1, zq_2, zq_3, zq_4, zq_5, ↓zq_6, ↓zq_7, ↓zq_8, ↓zq_9, ↓zq_aa, zq_ab, zq_ac, zq_ad, zq_ae, zq_af, zq_ag, ↓zq_ah, ↓zq_ai, ↓zq_aj, zq_ak, ↓zq_al, ↓zq_am, e_b1, e_b2, x_o1, x_o2, w_f5, w_p5, w_p2, q1]
theorem w_66 {M : EM} (h6 : -1 ≤ M 162 6 ∧ M 162 6 ≤ 130) : E_C 66 [162] M = if M 162 3 ≠ 98 ∧ ¬ (M 162 3 = 99 ∧ M 162 4 = 0) then some (1, w_M4 M) else some (0, M) := by
  have s0 : E_C 66 [162] M = e_tv E_C (E_V 66) e_t66_0 [162] M := r_ent (u := 66) (as := [162]) (M := M) (decide_eq_true c_rd5)
  have s44 : ∀ M', E_V 66 44 [162] M' = some (1, e_up (e_up M' 162 4 0) 162 2 1) := by
    intro M'
    rw [E_V_eq]
    show e_tv E_C (E_V 66) e_t66_44 [162] M' = _
    unfold e_t66_44
    simp [zq_a, zq_b, zq_c, zq_d, zq_e, zq_f, zq_g, zq_h, zq_i, zq_j, zq_k, zq_l, zq_m, zq_n, zq_o, zq_p, zq_q, zq_r, zq_s, zq_t, zq_u, zq_v, zq_w, zq_x, zq_y, zq_z, zq_A, zq_B, zq_C, zq_D, zq_E, zq_F, zq_G, zq_H, zq_I, zq_J, zq_K, zq_L, ↓zq_M, ↓zq_N, ↓zq_O, ↓zq_P, ↓zq_Q, ↓zq_R, zq_S, zq_T, zq_U, zq_V, zq_W, zq_X, zq_Y, zq_Z, zq_0, zq_1, zq_2, zq_3, zq_4, zq_5, ↓zq_6, ↓zq_7, ↓zq_8, ↓zq_9, ↓zq_aa, zq_ab, zq_ac, zq_ad, zq_ae, zq_af, zq_ag, ↓zq_ah, ↓zq_ai, ↓zq_aj, zq_ak, ↓zq_al, ↓zq_am, e_b1, e_b2, x_o1, x_o2, w_p4, w_p2]
  have w2 : e_w (M 162 6 + 1) = M 162 6 + 1 := a_w_id (by omega) (by omega)
  rw [s0]
  unfold e_t66_0 w_M4
  by_cases q1 : M 162 3 = 98
  · simp [zq_a, zq_b, zq_c, zq_d, zq_e, zq_f, zq_g, zq_h, zq_i, zq_j, zq_k, zq_l, zq_m, zq_n, zq_o, zq_p, zq_q, zq_r, zq_s, zq_t, zq_u, zq_v, zq_w, zq_x, zq_y, zq_z, zq_A, zq_B, zq_C, zq_D, zq_E, zq_F, zq_G, zq_H, zq_I, zq_J, zq_K, zq_L, ↓zq_M, ↓zq_N, ↓zq_O, ↓zq_P, ↓zq_Q, ↓zq_R, zq_S, zq_T, zq_U, zq_V, zq_W, zq_X, zq_Y, zq_Z, zq_0, zq_1, zq_2, zq_3, zq_4, zq_5, ↓zq_6, ↓zq_7, ↓zq_8, ↓zq_9, ↓zq_aa, zq_ab, zq_ac, zq_ad, zq_ae, zq_af, zq_ag, ↓zq_ah, ↓zq_ai, ↓zq_aj, zq_ak, ↓zq_al, ↓zq_am, e_b1, e_b2, x_o1, x_o2, w_f3, w_f4, w_f5, q1]
  · by_cases q2 : M 162 3 = 99
    · by_cases q3 : M 162 4 = 0
      · simp [zq_a, zq_b, zq_c, zq_d, zq_e, zq_f, zq_g, zq_h, zq_i, zq_j, zq_k, zq_l, zq_m, zq_n, zq_o, zq_p, zq_q, zq_r, zq_s, zq_t, zq_u, zq_v, zq_w, zq_x, zq_y, zq_z, zq_A, zq_B, zq_C, zq_D, zq_E, zq_F, zq_G, zq_H, zq_I, zq_J, zq_K, zq_L, ↓zq_M, ↓zq_N, ↓zq_O, ↓zq_P, ↓zq_Q, ↓zq_R, zq_S, zq_T, zq_U, zq_V, zq_W, zq_X, zq_Y, zq_Z, zq_0, zq_1, zq_2, zq_3, zq_4, zq_5, ↓zq_6, ↓zq_7, ↓zq_8, ↓zq_9, ↓zq_aa, zq_ab, zq_ac, zq_ad, zq_ae, zq_af, zq_ag, ↓zq_ah, ↓zq_ai, ↓zq_aj, zq_ak, ↓zq_al, ↓zq_am, e_b1, e_b2, x_o1, x_o2, w_f3, w_f4, w_f5, q1, q2, q3]
      · by_cases q4 : M 162 5 = 0
        · simp [zq_a, zq_b, zq_c, zq_d, zq_e, zq_f, zq_g, zq_h, zq_i, zq_j, zq_k, zq_l, zq_m, zq_n, zq_o, zq_p, zq_q, zq_r, zq_s, zq_t, zq_u, zq_v, zq_w, zq_x, zq_y, zq_z, zq_A, zq_B, zq_C, zq_D, zq_E, zq_F, zq_G, zq_H, zq_I, zq_J, zq_K, zq_L, ↓zq_M, ↓zq_N, ↓zq_O, ↓zq_P, ↓zq_Q, ↓zq_R, zq_S, zq_T, zq_U, zq_V, zq_W, zq_X, zq_Y, zq_Z, zq_0, zq_1, zq_2, zq_3, zq_4, zq_5, ↓zq_6, ↓zq_7, ↓zq_8, ↓zq_9, ↓zq_aa, zq_ab, zq_ac, zq_ad, zq_ae, zq_af, zq_ag, ↓zq_ah, ↓zq_ai, ↓zq_aj, zq_ak, ↓zq_al, ↓zq_am, e_b1, e_b2, x_o1, x_o2, w_f3, w_f4, w_f5, w_f6, w_p6, w2, s44, q1, q2, q3, q4]
        · simp [zq_a, zq_b, zq_c, zq_d, zq_e, zq_f, zq_g, zq_h, zq_i, zq_j, zq_k, zq_l, zq_m, zq_n, zq_o, zq_p, zq_q, zq_r, zq_s, zq_t, zq_u, zq_v, zq_w, zq_x, zq_y, zq_z, zq_A, zq_B, zq_C, zq_D, zq_E, zq_F, zq_G, zq_H, zq_I, zq_J, zq_K, zq_L, ↓zq_M, ↓zq_N, ↓zq_O, ↓zq_P, ↓zq_Q, ↓zq_R, zq_S, zq_T, zq_U, zq_V, zq_W, zq_X, zq_Y, zq_Z, zq_0, zq_1, zq_2, zq_3, zq_4, zq_5, ↓zq_6, ↓zq_7, ↓zq_8, ↓zq_9, ↓zq_aa, zq_ab, zq_ac, zq_ad, zq_ae, zq_af, zq_ag, ↓zq_ah, ↓zq_ai, ↓zq_aj, zq_ak, ↓zq_al, ↓zq_am, e_b1, e_b2, x_o1, x_o2, w_f3, w_f4, w_f5, w_f6, w_p6, w2, s44, q1, q2, q3, q4]
    · by_cases q4 : M 162 5 = 0
      · simp [zq_a, zq_b, zq_c, zq_d, zq_e, zq_f, zq_g, zq_h, zq_i, zq_j, zq_k, zq_l, zq_m, zq_n, zq_o, zq_p, zq_q, zq_r, zq_s, zq_t, zq_u, zq_v, zq_w, zq_x, zq_y, zq_z, zq_A, zq_B, zq_C, zq_D, zq_E, zq_F, zq_G, zq_H, zq_I, zq_J, zq_K, zq_L, ↓zq_M, ↓zq_N, ↓zq_O, ↓zq_P, ↓zq_Q, ↓zq_R, zq_S, zq_T, zq_U, zq_V, zq_W, zq_X, zq_Y, zq_Z, zq_0, zq_1, zq_2, zq_3, zq_4, zq_5, ↓zq_6, ↓zq_7, ↓zq_8, ↓zq_9, ↓zq_aa, zq_ab, zq_ac, zq_ad, zq_ae, zq_af, zq_ag, ↓zq_ah, ↓zq_ai, ↓zq_aj, zq_ak, ↓zq_al, ↓zq_am, e_b1, e_b2, x_o1, x_o2, w_f3, w_f4, w_f5, w_f6, w_p6, w2, s44, q1, q2, q4]
      · simp [zq_a, zq_b, zq_c, zq_d, zq_e, zq_f, zq_g, zq_h, zq_i, zq_j, zq_k, zq_l, zq_m, zq_n, zq_o, zq_p, zq_q, zq_r, zq_s, zq_t, zq_u, zq_v, zq_w, zq_x, zq_y, zq_z, zq_A, zq_B, zq_C, zq_D, zq_E, zq_F, zq_G, zq_H, zq_I, zq_J, zq_K, zq_L, ↓zq_M, ↓zq_N, ↓zq_O, ↓zq_P, ↓zq_Q, ↓zq_R, zq_S, zq_T, zq_U, zq_V, zq_W, zq_X, zq_Y, zq_Z, zq_0, zq_1, zq_2, zq_3, zq_4, zq_5, ↓zq_6, ↓zq_7, ↓zq_8, ↓zq_9, ↓zq_aa, zq_ab, zq_ac, zq_ad, zq_ae, zq_af, zq_ag, ↓zq_ah, ↓zq_ai, ↓zq_aj, zq_ak, ↓zq_al, ↓zq_am, e_b1, e_b2, x_o1, x_o2, w_f3, w_f4, w_f5, w_f6, w_p6, w2, s44, q1, q2, q4]
theorem w_67 {M : EM} (h7 : 0 ≤ M 162 7 ∧ M 162 7 < 120) : E_C 67 [162] M = if M 162 5 = 0 ∧ ¬ (M 162 3 = 99 ∧ M 162 4 = 0) then some (1, w_M5 M) else some (0, M) := by
  have s0 : E_C 67 [162] M = e_tv E_C (E_V 67) e_t67_0 [162] M := r_ent (u := 67) (as := [162]) (M := M) (decide_eq_true c_rd5)
  have l0 := fun v M' => p_layd (a := 166) (i := M 162 7) (v := v) (n := 120) (by decide +kernel) h7 M'
  have l1 := fun v M' => p_layd (a := 165) (i := M 162 7 + 1) (v := v) (n := 121) (by decide +kernel) ⟨by omega, by omega⟩ M'
  have w2 : e_w (M 162 7 + 1) = M 162 7 + 1 := a_w_id (by omega) (by omega)
  rw [s0]
  unfold e_t67_0 w_M5
  by_cases q1 : M 162 5 = 0
  · by_cases q2 : M 162 3 = 99
    · by_cases q3 : M 162 4 = 0
      · simp [zq_a, zq_b, zq_c, zq_d, zq_e, zq_f, zq_g, zq_h, zq_i, zq_j, zq_k, zq_l, zq_m, zq_n, zq_o, zq_p, zq_q, zq_r, zq_s, zq_t, zq_u, zq_v, zq_w, zq_x, zq_y, zq_z, zq_A, zq_B, zq_C, zq_D, zq_E, zq_F, zq_G, zq_H, zq_I, zq_J, zq_K, zq_L, ↓zq_M, ↓zq_N, ↓zq_O, ↓zq_P, ↓zq_Q, ↓zq_R, zq_S, zq_T, zq_U, zq_V, zq_W, zq_X, zq_Y, zq_Z, zq_0, zq_1, zq_2, zq_3, zq_4, zq_5, ↓zq_6, ↓zq_7, ↓zq_8, ↓zq_9, ↓zq_aa, zq_ab, zq_ac, zq_ad, zq_ae, zq_af, zq_ag, ↓zq_ah, ↓zq_ai, ↓zq_aj, zq_ak, ↓zq_al, ↓zq_am, e_b1, e_b2, x_o1, x_o2, w_f3, w_f4, w_f5, q1, q2, q3]
      · simp [zq_a, zq_b, zq_c, zq_d, zq_e, zq_f, zq_g, zq_h, zq_i, zq_j, zq_k, zq_l, zq_m, zq_n, zq_o, zq_p, zq_q, zq_r, zq_s, zq_t, zq_u, zq_v, zq_w, zq_x, zq_y, zq_z, zq_A, zq_B, zq_C, zq_D, zq_E, zq_F, zq_G, zq_H, zq_I, zq_J, zq_K, zq_L, ↓zq_M, ↓zq_N, ↓zq_O, ↓zq_P, ↓zq_Q, ↓zq_R, zq_S, zq_T, zq_U, zq_V, zq_W, zq_X, zq_Y, zq_Z, zq_0, zq_1, zq_2, zq_3, zq_4, zq_5, ↓zq_6, ↓zq_7, ↓zq_8, ↓zq_9, ↓zq_aa, zq_ab, zq_ac, zq_ad, zq_ae, zq_af, zq_ag, ↓zq_ah, ↓zq_ai, ↓zq_aj, zq_ak, ↓zq_al, ↓zq_am, e_b1, e_b2, x_o1, x_o2, w_f3, w_f4, w_f5, w_f6, w_f7, w_f8, w_p7, w_p2, w_aC, w_aB, l0, l1, w2, c_up_n, c_up_s, q1, q2, q3]
    · simp [zq_a, zq_b, zq_c, zq_d, zq_e, zq_f, zq_g, zq_h, zq_i, zq_j, zq_k, zq_l, zq_m, zq_n, zq_o, zq_p, zq_q, zq_r, zq_s, zq_t, zq_u, zq_v, zq_w, zq_x, zq_y, zq_z, zq_A, zq_B, zq_C, zq_D, zq_E, zq_F, zq_G, zq_H, zq_I, zq_J, zq_K, zq_L, ↓zq_M, ↓zq_N, ↓zq_O, ↓zq_P, ↓zq_Q, ↓zq_R, zq_S, zq_T, zq_U, zq_V, zq_W, zq_X, zq_Y, zq_Z, zq_0, zq_1, zq_2, zq_3, zq_4, zq_5, ↓zq_6, ↓zq_7, ↓zq_8, ↓zq_9, ↓zq_aa, zq_ab, zq_ac, zq_ad, zq_ae, zq_af, zq_ag, ↓zq_ah, ↓zq_ai, ↓zq_aj, zq_ak, ↓zq_al, ↓zq_am, e_b1, e_b2, x_o1, x_o2, w_f3, w_f4, w_f5, w_f6, w_f7, w_f8, w_p7, w_p2, w_aC, w_aB, l0, l1, w2, c_up_n, c_up_s, q1, q2]
  · simp [zq_a, zq_b, zq_c, zq_d, zq_e, zq_f, zq_g, zq_h, zq_i, zq_j, zq_k, zq_l, zq_m, zq_n, zq_o, zq_p, zq_q, zq_r, zq_s, zq_t, zq_u, zq_v, zq_w, zq_x, zq_y, zq_z, zq_A, zq_B, zq_C, zq_D, zq_E, zq_F, zq_G, zq_H, zq_I, zq_J, zq_K, zq_L, ↓zq_M, ↓zq_N, ↓zq_O, ↓zq_P, ↓zq_Q, ↓zq_R, zq_S, zq_T, zq_U, zq_V, zq_W, zq_X, zq_Y, zq_Z, zq_0, zq_1, zq_2, zq_3, zq_4, zq_5, ↓zq_6, ↓zq_7, ↓zq_8, ↓zq_9, ↓zq_aa, zq_ab, zq_ac, zq_ad, zq_ae, zq_af, zq_ag, ↓zq_ah, ↓zq_ai, ↓zq_aj, zq_ak, ↓zq_al, ↓zq_am, e_b1, e_b2, x_o1, x_o2, w_f3, w_f4, w_f5, q1]
def w_M (M : EM) (c : Int) : EM :=
  if M 162 2 = 0 then w_M0 M c
  else if M 162 2 = 1 then (if 48 ≤ c ∧ c ≤ 57 then w_M1 M (c - 48) else e_up M 162 5 1)
  else if M 162 2 = 2 ∧ 48 ≤ c ∧ c ≤ 57 then w_M6 M c
  else if c = 47 then w_M2 M
  else if c = 93 then w_M3 M
  else if c = 32 then w_M4 M
  else w_M5 M
theorem w_goOn {c : Int} {M : EM} (hc : -2147483648 ≤ c ∧ c ≤ 2147483647) (h2 : 0 ≤ M 162 2 ∧ M 162 2 ≤ 3) (h7 : 0 ≤ M 162 7 ∧ M 162 7 < 120) (h8 : 0 ≤ M 162 8 ∧ M 162 8 < 120) (h6 : M 162 2 ≠ 0 → 1 ≤ M 162 6 ∧ M 162 6 ≤ 130) (hm : M 162 2 = 2 → 1 ≤ M 162 8 ∧ 0 ≤ M 167 (M 162 8 - 1).toNat ∧ M 167 (M 162 8 - 1).toNat ≤ 9) : (w_ok (M 162) c → E_C 60 [162, c] M = some (1, w_M M c)) ∧ (¬ w_ok (M 162) c → E_C 60 [162, c] M = some (0, M)) := by
  have s0 : E_C 60 [162, c] M = e_tv E_C (E_V 60) e_t60_0 [162, c, 0] M := r_ent (u := 60) (as := [162, c]) (M := M) (decide_eq_true c_rd5)
  rw [s0]
  unfold e_t60_0 w_ok w_M
  by_cases q0 : M 162 2 = 0
  · have k := w_61 (c := c) h7
    simp only [q0, if_true]
    by_cases q : c = 99 ∨ c = 114 ∨ c = 102 ∨ c = 98
    · rw [if_pos q] at k
      refine ⟨fun _ => ?_, fun e => absurd q e⟩
      simp [zq_a, zq_b, zq_c, zq_d, zq_e, zq_f, zq_g, zq_h, zq_i, zq_j, zq_k, zq_l, zq_m, zq_n, zq_o, zq_p, zq_q, zq_r, zq_s, zq_t, zq_u, zq_v, zq_w, zq_x, zq_y, zq_z, zq_A, zq_B, zq_C, zq_D, zq_E, zq_F, zq_G, zq_H, zq_I, zq_J, zq_K, zq_L, ↓zq_M, ↓zq_N, ↓zq_O, ↓zq_P, ↓zq_Q, ↓zq_R, zq_S, zq_T, zq_U, zq_V, zq_W, zq_X, zq_Y, zq_Z, zq_0, zq_1, zq_2, zq_3, zq_4, zq_5, ↓zq_6, ↓zq_7, ↓zq_8, ↓zq_9, ↓zq_aa, zq_ab, zq_ac, zq_ad, zq_ae, zq_af, zq_ag, ↓zq_ah, ↓zq_ai, ↓zq_aj, zq_ak, ↓zq_al, ↓zq_am, e_b1, e_b2, x_o1, x_o2, w_f2, q0, k]
    · rw [if_neg q] at k
      refine ⟨fun e => absurd e q, fun _ => ?_⟩
      simp [zq_a, zq_b, zq_c, zq_d, zq_e, zq_f, zq_g, zq_h, zq_i, zq_j, zq_k, zq_l, zq_m, zq_n, zq_o, zq_p, zq_q, zq_r, zq_s, zq_t, zq_u, zq_v, zq_w, zq_x, zq_y, zq_z, zq_A, zq_B, zq_C, zq_D, zq_E, zq_F, zq_G, zq_H, zq_I, zq_J, zq_K, zq_L, ↓zq_M, ↓zq_N, ↓zq_O, ↓zq_P, ↓zq_Q, ↓zq_R, zq_S, zq_T, zq_U, zq_V, zq_W, zq_X, zq_Y, zq_Z, zq_0, zq_1, zq_2, zq_3, zq_4, zq_5, ↓zq_6, ↓zq_7, ↓zq_8, ↓zq_9, ↓zq_aa, zq_ab, zq_ac, zq_ad, zq_ae, zq_af, zq_ag, ↓zq_ah, ↓zq_ai, ↓zq_aj, zq_ak, ↓zq_al, ↓zq_am, e_b1, e_b2, x_o1, x_o2, w_f2, q0, k]
  have h6 := h6 q0
  by_cases q1 : M 162 2 = 1
  · simp only [q1, if_true]
    rw [if_neg (by decide), if_neg (by decide)]
    by_cases dg : 48 ≤ c ∧ c ≤ 57
    · obtain ⟨d1, d2⟩ := dg
      have d1_n : ¬ c < 48 := by omega
      have d2_n : ¬ 57 < c := by omega
      have w1 : e_w (c - 48) = c - 48 := a_w_id (by omega) (by omega)
      have k := w_62 (d := c - 48) h8 h6
      rw [if_pos ⟨d1, d2⟩]
      refine ⟨fun _ => ?_, fun e => absurd (Or.inl ⟨d1, d2⟩) e⟩
      simp [zq_a, zq_b, zq_c, zq_d, zq_e, zq_f, zq_g, zq_h, zq_i, zq_j, zq_k, zq_l, zq_m, zq_n, zq_o, zq_p, zq_q, zq_r, zq_s, zq_t, zq_u, zq_v, zq_w, zq_x, zq_y, zq_z, zq_A, zq_B, zq_C, zq_D, zq_E, zq_F, zq_G, zq_H, zq_I, zq_J, zq_K, zq_L, ↓zq_M, ↓zq_N, ↓zq_O, ↓zq_P, ↓zq_Q, ↓zq_R, zq_S, zq_T, zq_U, zq_V, zq_W, zq_X, zq_Y, zq_Z, zq_0, zq_1, zq_2, zq_3, zq_4, zq_5, ↓zq_6, ↓zq_7, ↓zq_8, ↓zq_9, ↓zq_aa, zq_ab, zq_ac, zq_ad, zq_ae, zq_af, zq_ag, ↓zq_ah, ↓zq_ai, ↓zq_aj, zq_ak, ↓zq_al, ↓zq_am, e_b1, e_b2, x_o1, x_o2, w_f2, q1, k, w1, d1, d1_n, d2, d2_n]
    · have k := w_63 (c := c) (M := M)
      rw [if_neg dg]
      by_cases q : c = 91 ∧ M 162 3 = 114 ∧ M 162 5 = 0
      · rw [if_pos q] at k
        refine ⟨fun _ => ?_, fun e => absurd (Or.inr q) e⟩
        have q' := q.1
        subst q'
        simp [zq_a, zq_b, zq_c, zq_d, zq_e, zq_f, zq_g, zq_h, zq_i, zq_j, zq_k, zq_l, zq_m, zq_n, zq_o, zq_p, zq_q, zq_r, zq_s, zq_t, zq_u, zq_v, zq_w, zq_x, zq_y, zq_z, zq_A, zq_B, zq_C, zq_D, zq_E, zq_F, zq_G, zq_H, zq_I, zq_J, zq_K, zq_L, ↓zq_M, ↓zq_N, ↓zq_O, ↓zq_P, ↓zq_Q, ↓zq_R, zq_S, zq_T, zq_U, zq_V, zq_W, zq_X, zq_Y, zq_Z, zq_0, zq_1, zq_2, zq_3, zq_4, zq_5, ↓zq_6, ↓zq_7, ↓zq_8, ↓zq_9, ↓zq_aa, zq_ab, zq_ac, zq_ad, zq_ae, zq_af, zq_ag, ↓zq_ah, ↓zq_ai, ↓zq_aj, zq_ak, ↓zq_al, ↓zq_am, e_b1, e_b2, x_o1, x_o2, w_f2, q1, k]
      · rw [if_neg q] at k
        refine ⟨fun e => by omega, fun _ => ?_⟩
        rcases x_le 48 c with ⟨d1, d1_n⟩ | ⟨d1, d1_n⟩
        · have d2 : ¬ c ≤ 57 := fun h => dg ⟨d1, h⟩
          simp [zq_a, zq_b, zq_c, zq_d, zq_e, zq_f, zq_g, zq_h, zq_i, zq_j, zq_k, zq_l, zq_m, zq_n, zq_o, zq_p, zq_q, zq_r, zq_s, zq_t, zq_u, zq_v, zq_w, zq_x, zq_y, zq_z, zq_A, zq_B, zq_C, zq_D, zq_E, zq_F, zq_G, zq_H, zq_I, zq_J, zq_K, zq_L, ↓zq_M, ↓zq_N, ↓zq_O, ↓zq_P, ↓zq_Q, ↓zq_R, zq_S, zq_T, zq_U, zq_V, zq_W, zq_X, zq_Y, zq_Z, zq_0, zq_1, zq_2, zq_3, zq_4, zq_5, ↓zq_6, ↓zq_7, ↓zq_8, ↓zq_9, ↓zq_aa, zq_ab, zq_ac, zq_ad, zq_ae, zq_af, zq_ag, ↓zq_ah, ↓zq_ai, ↓zq_aj, zq_ak, ↓zq_al, ↓zq_am, e_b1, e_b2, x_o1, x_o2, w_f2, q1, k, d1, d1_n, d2]
        · simp [zq_a, zq_b, zq_c, zq_d, zq_e, zq_f, zq_g, zq_h, zq_i, zq_j, zq_k, zq_l, zq_m, zq_n, zq_o, zq_p, zq_q, zq_r, zq_s, zq_t, zq_u, zq_v, zq_w, zq_x, zq_y, zq_z, zq_A, zq_B, zq_C, zq_D, zq_E, zq_F, zq_G, zq_H, zq_I, zq_J, zq_K, zq_L, ↓zq_M, ↓zq_N, ↓zq_O, ↓zq_P, ↓zq_Q, ↓zq_R, zq_S, zq_T, zq_U, zq_V, zq_W, zq_X, zq_Y, zq_Z, zq_0, zq_1, zq_2, zq_3, zq_4, zq_5, ↓zq_6, ↓zq_7, ↓zq_8, ↓zq_9, ↓zq_aa, zq_ab, zq_ac, zq_ad, zq_ae, zq_af, zq_ag, ↓zq_ah, ↓zq_ai, ↓zq_aj, zq_ak, ↓zq_al, ↓zq_am, e_b1, e_b2, x_o1, x_o2, w_f2, q1, k, d1, d1_n]
  by_cases q2 : M 162 2 = 2 ∧ 48 ≤ c ∧ c ≤ 57
  · obtain ⟨q2, d1, d2⟩ := q2
    obtain ⟨m1, m2, m3⟩ := hm q2
    have d1_n : ¬ c < 48 := by omega
    have d2_n : ¬ 57 < c := by omega
    rw [if_neg q0, if_neg q0, if_neg q1, if_neg q1, if_pos ⟨q2, d1, d2⟩]
    obtain ⟨z, hz⟩ : ∃ z : Nat, M 162 8 - 1 = (z : Int) := ⟨(M 162 8 - 1).toNat, by omega⟩
    have w0 : e_w (M 162 8 - 1) = (z : Int) := (a_w_id (by omega) (by omega)).trans hz
    rw [hz, Int.toNat_natCast] at m2 m3
    have l0 := fun v M' => w_layN (a := 167) (i := (z : Int)) (n := 120) (by decide +kernel) (j := z) rfl (by omega) v M'
    have t1 : E_C 146 [167, (z : Int)] M = some (M 167 z, M) := w_atN (a := 167) (i := (z : Int)) (n := 120) (by decide +kernel) (j := z) rfl (by omega) M
    have w1 : e_w (10 * M 167 z) = 10 * M 167 z := a_w_id (by omega) (by omega)
    have w2 : e_w (10 * M 167 z + c) = 10 * M 167 z + c := a_w_id (by omega) (by omega)
    have w3 : e_w (10 * M 167 z + c - 48) = 10 * M 167 z + c - 48 := a_w_id (by omega) (by omega)
    unfold w_M6
    rw [hz, Int.toNat_natCast]
    refine ⟨fun _ => ?_, fun e => absurd (Or.inl ⟨q2, d1, d2⟩) e⟩
    simp [zq_a, zq_b, zq_c, zq_d, zq_e, zq_f, zq_g, zq_h, zq_i, zq_j, zq_k, zq_l, zq_m, zq_n, zq_o, zq_p, zq_q, zq_r, zq_s, zq_t, zq_u, zq_v, zq_w, zq_x, zq_y, zq_z, zq_A, zq_B, zq_C, zq_D, zq_E, zq_F, zq_G, zq_H, zq_I, zq_J, zq_K, zq_L, ↓zq_M, ↓zq_N, ↓zq_O, ↓zq_P, ↓zq_Q, ↓zq_R, zq_S, zq_T, zq_U, zq_V, zq_W, zq_X, zq_Y, zq_Z, zq_0, zq_1, zq_2, zq_3, zq_4, zq_5, ↓zq_6, ↓zq_7, ↓zq_8, ↓zq_9, ↓zq_aa, zq_ab, zq_ac, zq_ad, zq_ae, zq_af, zq_ag, ↓zq_ah, ↓zq_ai, ↓zq_aj, zq_ak, ↓zq_al, ↓zq_am, e_b1, e_b2, x_o1, x_o2, w_f2, w_f8, w_aD, w_p2, q2, d1, d1_n, d2, d2_n, w0, w1, w2, w3, l0, t1]
  rw [if_neg q0, if_neg q0, if_neg q1, if_neg q1, if_neg q2]
  by_cases q3 : c = 47
  · have k := w_64 (M := M)
    subst q3
    rw [if_pos rfl]
    by_cases q : M 162 3 = 99 ∧ M 162 4 = 0
    · rw [if_pos q] at k
      refine ⟨fun _ => ?_, fun e => absurd (Or.inr (Or.inl ⟨rfl, q⟩)) e⟩
      simp [zq_a, zq_b, zq_c, zq_d, zq_e, zq_f, zq_g, zq_h, zq_i, zq_j, zq_k, zq_l, zq_m, zq_n, zq_o, zq_p, zq_q, zq_r, zq_s, zq_t, zq_u, zq_v, zq_w, zq_x, zq_y, zq_z, zq_A, zq_B, zq_C, zq_D, zq_E, zq_F, zq_G, zq_H, zq_I, zq_J, zq_K, zq_L, ↓zq_M, ↓zq_N, ↓zq_O, ↓zq_P, ↓zq_Q, ↓zq_R, zq_S, zq_T, zq_U, zq_V, zq_W, zq_X, zq_Y, zq_Z, zq_0, zq_1, zq_2, zq_3, zq_4, zq_5, ↓zq_6, ↓zq_7, ↓zq_8, ↓zq_9, ↓zq_aa, zq_ab, zq_ac, zq_ad, zq_ae, zq_af, zq_ag, ↓zq_ah, ↓zq_ai, ↓zq_aj, zq_ak, ↓zq_al, ↓zq_am, e_b1, e_b2, x_o1, x_o2, w_f2, q0, q1, k]
    · rw [if_neg q] at k
      refine ⟨fun e => by omega, fun _ => ?_⟩
      simp [zq_a, zq_b, zq_c, zq_d, zq_e, zq_f, zq_g, zq_h, zq_i, zq_j, zq_k, zq_l, zq_m, zq_n, zq_o, zq_p, zq_q, zq_r, zq_s, zq_t, zq_u, zq_v, zq_w, zq_x, zq_y, zq_z, zq_A, zq_B, zq_C, zq_D, zq_E, zq_F, zq_G, zq_H, zq_I, zq_J, zq_K, zq_L, ↓zq_M, ↓zq_N, ↓zq_O, ↓zq_P, ↓zq_Q, ↓zq_R, zq_S, zq_T, zq_U, zq_V, zq_W, zq_X, zq_Y, zq_Z, zq_0, zq_1, zq_2, zq_3, zq_4, zq_5, ↓zq_6, ↓zq_7, ↓zq_8, ↓zq_9, ↓zq_aa, zq_ab, zq_ac, zq_ad, zq_ae, zq_af, zq_ag, ↓zq_ah, ↓zq_ai, ↓zq_aj, zq_ak, ↓zq_al, ↓zq_am, e_b1, e_b2, x_o1, x_o2, w_f2, q0, q1, k]
  rw [if_neg q3]
  by_cases q4 : c = 93
  · have k := w_65 (M := M)
    subst q4
    rw [if_pos rfl]
    by_cases q : M 162 5 ≠ 0
    · rw [if_pos q] at k
      refine ⟨fun _ => ?_, fun e => absurd (Or.inr (Or.inr (Or.inl ⟨rfl, q⟩))) e⟩
      simp [zq_a, zq_b, zq_c, zq_d, zq_e, zq_f, zq_g, zq_h, zq_i, zq_j, zq_k, zq_l, zq_m, zq_n, zq_o, zq_p, zq_q, zq_r, zq_s, zq_t, zq_u, zq_v, zq_w, zq_x, zq_y, zq_z, zq_A, zq_B, zq_C, zq_D, zq_E, zq_F, zq_G, zq_H, zq_I, zq_J, zq_K, zq_L, ↓zq_M, ↓zq_N, ↓zq_O, ↓zq_P, ↓zq_Q, ↓zq_R, zq_S, zq_T, zq_U, zq_V, zq_W, zq_X, zq_Y, zq_Z, zq_0, zq_1, zq_2, zq_3, zq_4, zq_5, ↓zq_6, ↓zq_7, ↓zq_8, ↓zq_9, ↓zq_aa, zq_ab, zq_ac, zq_ad, zq_ae, zq_af, zq_ag, ↓zq_ah, ↓zq_ai, ↓zq_aj, zq_ak, ↓zq_al, ↓zq_am, e_b1, e_b2, x_o1, x_o2, w_f2, q0, q1, k]
    · rw [if_neg q] at k
      refine ⟨fun e => by omega, fun _ => ?_⟩
      simp [zq_a, zq_b, zq_c, zq_d, zq_e, zq_f, zq_g, zq_h, zq_i, zq_j, zq_k, zq_l, zq_m, zq_n, zq_o, zq_p, zq_q, zq_r, zq_s, zq_t, zq_u, zq_v, zq_w, zq_x, zq_y, zq_z, zq_A, zq_B, zq_C, zq_D, zq_E, zq_F, zq_G, zq_H, zq_I, zq_J, zq_K, zq_L, ↓zq_M, ↓zq_N, ↓zq_O, ↓zq_P, ↓zq_Q, ↓zq_R, zq_S, zq_T, zq_U, zq_V, zq_W, zq_X, zq_Y, zq_Z, zq_0, zq_1, zq_2, zq_3, zq_4, zq_5, ↓zq_6, ↓zq_7, ↓zq_8, ↓zq_9, ↓zq_aa, zq_ab, zq_ac, zq_ad, zq_ae, zq_af, zq_ag, ↓zq_ah, ↓zq_ai, ↓zq_aj, zq_ak, ↓zq_al, ↓zq_am, e_b1, e_b2, x_o1, x_o2, w_f2, q0, q1, k]
  rw [if_neg q4]
  by_cases q5 : c = 32
  · have k := w_66 (M := M) ⟨by omega, h6.2⟩
    subst q5
    rw [if_pos rfl]
    by_cases q : M 162 3 ≠ 98 ∧ ¬ (M 162 3 = 99 ∧ M 162 4 = 0)
    · rw [if_pos q] at k
      refine ⟨fun _ => ?_, fun e => absurd (Or.inr (Or.inr (Or.inr (Or.inl ⟨rfl, q⟩)))) e⟩
      simp [zq_a, zq_b, zq_c, zq_d, zq_e, zq_f, zq_g, zq_h, zq_i, zq_j, zq_k, zq_l, zq_m, zq_n, zq_o, zq_p, zq_q, zq_r, zq_s, zq_t, zq_u, zq_v, zq_w, zq_x, zq_y, zq_z, zq_A, zq_B, zq_C, zq_D, zq_E, zq_F, zq_G, zq_H, zq_I, zq_J, zq_K, zq_L, ↓zq_M, ↓zq_N, ↓zq_O, ↓zq_P, ↓zq_Q, ↓zq_R, zq_S, zq_T, zq_U, zq_V, zq_W, zq_X, zq_Y, zq_Z, zq_0, zq_1, zq_2, zq_3, zq_4, zq_5, ↓zq_6, ↓zq_7, ↓zq_8, ↓zq_9, ↓zq_aa, zq_ab, zq_ac, zq_ad, zq_ae, zq_af, zq_ag, ↓zq_ah, ↓zq_ai, ↓zq_aj, zq_ak, ↓zq_al, ↓zq_am, e_b1, e_b2, x_o1, x_o2, w_f2, q0, q1, k]
    · rw [if_neg q] at k
      refine ⟨fun e => by omega, fun _ => ?_⟩
      simp [zq_a, zq_b, zq_c, zq_d, zq_e, zq_f, zq_g, zq_h, zq_i, zq_j, zq_k, zq_l, zq_m, zq_n, zq_o, zq_p, zq_q, zq_r, zq_s, zq_t, zq_u, zq_v, zq_w, zq_x, zq_y, zq_z, zq_A, zq_B, zq_C, zq_D, zq_E, zq_F, zq_G, zq_H, zq_I, zq_J, zq_K, zq_L, ↓zq_M, ↓zq_N, ↓zq_O, ↓zq_P, ↓zq_Q, ↓zq_R, zq_S, zq_T, zq_U, zq_V, zq_W, zq_X, zq_Y, zq_Z, zq_0, zq_1, zq_2, zq_3, zq_4, zq_5, ↓zq_6, ↓zq_7, ↓zq_8, ↓zq_9, ↓zq_aa, zq_ab, zq_ac, zq_ad, zq_ae, zq_af, zq_ag, ↓zq_ah, ↓zq_ai, ↓zq_aj, zq_ak, ↓zq_al, ↓zq_am, e_b1, e_b2, x_o1, x_o2, w_f2, q0, q1, k]
  rw [if_neg q5]
  have dd : ¬ (M 162 2 = 2 ∧ 48 ≤ c ∧ c ≤ 57) := q2
  by_cases q6 : c = 59
  · have k := w_67 h7
    subst q6
    by_cases q : M 162 5 = 0 ∧ ¬ (M 162 3 = 99 ∧ M 162 4 = 0)
    · rw [if_pos q] at k
      refine ⟨fun _ => ?_, fun e => absurd (Or.inr (Or.inr (Or.inr (Or.inr ⟨rfl, q⟩)))) e⟩
      simp [zq_a, zq_b, zq_c, zq_d, zq_e, zq_f, zq_g, zq_h, zq_i, zq_j, zq_k, zq_l, zq_m, zq_n, zq_o, zq_p, zq_q, zq_r, zq_s, zq_t, zq_u, zq_v, zq_w, zq_x, zq_y, zq_z, zq_A, zq_B, zq_C, zq_D, zq_E, zq_F, zq_G, zq_H, zq_I, zq_J, zq_K, zq_L, ↓zq_M, ↓zq_N, ↓zq_O, ↓zq_P, ↓zq_Q, ↓zq_R, zq_S, zq_T, zq_U, zq_V, zq_W, zq_X, zq_Y, zq_Z, zq_0, zq_1, zq_2, zq_3, zq_4, zq_5, ↓zq_6, ↓zq_7, ↓zq_8, ↓zq_9, ↓zq_aa, zq_ab, zq_ac, zq_ad, zq_ae, zq_af, zq_ag, ↓zq_ah, ↓zq_ai, ↓zq_aj, zq_ak, ↓zq_al, ↓zq_am, e_b1, e_b2, x_o1, x_o2, w_f2, q0, q1, k]
    · rw [if_neg q] at k
      refine ⟨fun e => by omega, fun _ => ?_⟩
      simp [zq_a, zq_b, zq_c, zq_d, zq_e, zq_f, zq_g, zq_h, zq_i, zq_j, zq_k, zq_l, zq_m, zq_n, zq_o, zq_p, zq_q, zq_r, zq_s, zq_t, zq_u, zq_v, zq_w, zq_x, zq_y, zq_z, zq_A, zq_B, zq_C, zq_D, zq_E, zq_F, zq_G, zq_H, zq_I, zq_J, zq_K, zq_L, ↓zq_M, ↓zq_N, ↓zq_O, ↓zq_P, ↓zq_Q, ↓zq_R, zq_S, zq_T, zq_U, zq_V, zq_W, zq_X, zq_Y, zq_Z, zq_0, zq_1, zq_2, zq_3, zq_4, zq_5, ↓zq_6, ↓zq_7, ↓zq_8, ↓zq_9, ↓zq_aa, zq_ab, zq_ac, zq_ad, zq_ae, zq_af, zq_ag, ↓zq_ah, ↓zq_ai, ↓zq_aj, zq_ak, ↓zq_al, ↓zq_am, e_b1, e_b2, x_o1, x_o2, w_f2, q0, q1, k]
  refine ⟨fun e => by omega, fun _ => ?_⟩
  rcases x_le 48 c with ⟨d1, d1_n⟩ | ⟨d1, d1_n⟩
  · rcases x_le c 57 with ⟨d2, d2_n⟩ | ⟨d2, d2_n⟩
    · have q7 : ¬ (M 162 2 = 2) := fun e => q2 ⟨e, d1, d2⟩
      simp [zq_a, zq_b, zq_c, zq_d, zq_e, zq_f, zq_g, zq_h, zq_i, zq_j, zq_k, zq_l, zq_m, zq_n, zq_o, zq_p, zq_q, zq_r, zq_s, zq_t, zq_u, zq_v, zq_w, zq_x, zq_y, zq_z, zq_A, zq_B, zq_C, zq_D, zq_E, zq_F, zq_G, zq_H, zq_I, zq_J, zq_K, zq_L, ↓zq_M, ↓zq_N, ↓zq_O, ↓zq_P, ↓zq_Q, ↓zq_R, zq_S, zq_T, zq_U, zq_V, zq_W, zq_X, zq_Y, zq_Z, zq_0, zq_1, zq_2, zq_3, zq_4, zq_5, ↓zq_6, ↓zq_7, ↓zq_8, ↓zq_9, ↓zq_aa, zq_ab, zq_ac, zq_ad, zq_ae, zq_af, zq_ag, ↓zq_ah, ↓zq_ai, ↓zq_aj, zq_ak, ↓zq_al, ↓zq_am, e_b1, e_b2, x_o1, x_o2, w_f2, q0, q1, q3, q4, q5, q6, q7, d1, d1_n, d2, d2_n]
    · simp [zq_a, zq_b, zq_c, zq_d, zq_e, zq_f, zq_g, zq_h, zq_i, zq_j, zq_k, zq_l, zq_m, zq_n, zq_o, zq_p, zq_q, zq_r, zq_s, zq_t, zq_u, zq_v, zq_w, zq_x, zq_y, zq_z, zq_A, zq_B, zq_C, zq_D, zq_E, zq_F, zq_G, zq_H, zq_I, zq_J, zq_K, zq_L, ↓zq_M, ↓zq_N, ↓zq_O, ↓zq_P, ↓zq_Q, ↓zq_R, zq_S, zq_T, zq_U, zq_V, zq_W, zq_X, zq_Y, zq_Z, zq_0, zq_1, zq_2, zq_3, zq_4, zq_5, ↓zq_6, ↓zq_7, ↓zq_8, ↓zq_9, ↓zq_aa, zq_ab, zq_ac, zq_ad, zq_ae, zq_af, zq_ag, ↓zq_ah, ↓zq_ai, ↓zq_aj, zq_ak, ↓zq_al, ↓zq_am, e_b1, e_b2, x_o1, x_o2, w_f2, q0, q1, q3, q4, q5, q6, d1, d1_n, d2, d2_n]
  · simp [zq_a, zq_b, zq_c, zq_d, zq_e, zq_f, zq_g, zq_h, zq_i, zq_j, zq_k, zq_l, zq_m, zq_n, zq_o, zq_p, zq_q, zq_r, zq_s, zq_t, zq_u, zq_v, zq_w, zq_x, zq_y, zq_z, zq_A, zq_B, zq_C, zq_D, zq_E, zq_F, zq_G, zq_H, zq_I, zq_J, zq_K, zq_L, ↓zq_M, ↓zq_N, ↓zq_O, ↓zq_P, ↓zq_Q, ↓zq_R, zq_S, zq_T, zq_U, zq_V, zq_W, zq_X, zq_Y, zq_Z, zq_0, zq_1, zq_2, zq_3, zq_4, zq_5, ↓zq_6, ↓zq_7, ↓zq_8, ↓zq_9, ↓zq_aa, zq_ab, zq_ac, zq_ad, zq_ae, zq_af, zq_ag, ↓zq_ah, ↓zq_ai, ↓zq_aj, zq_ak, ↓zq_al, ↓zq_am, e_b1, e_b2, x_o1, x_o2, w_f2, q0, q1, q3, q4, q5, q6, d1, d1_n]
