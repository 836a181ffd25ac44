/-! FAULTS that FIT, the NEXT LOOK, by the reference: exactly -/
def ft_T (M : EM) (a b : Int) : EM := e_up (e_up M 192 23 a) 192 24 b
theorem ft_T_23 {M : EM} {a b : Int} : ft_T M a b 192 23 = a := (c_up_n (by omega)).trans c_up_s
theorem ft_T_24 {M : EM} {a b : Int} : ft_T M a b 192 24 = b := c_up_s
theorem ft_T_n {M : EM} {a b : Int} {id k : Nat} (h : ¬ (id = 192 ∧ (k = 23 ∨ k = 24))) : ft_T M a b id k = M id k := (c_up_n (by omega)).trans (c_up_n (by omega))
theorem ft_T_G {M : EM} {a b : Int} : r_G (ft_T M a b) = r_G M := funext fun i => ft_T_n (by omega)
theorem ft_T_0 {M : EM} {a b : Int} (h3 : M 192 23 = -1) (h4 : M 192 24 = -1) : ft_T (ft_T M a b) (-1) (-1) = M := by
  funext id k
  by_cases c : id = 192 ∧ k = 24
  · rw [c.1, c.2, ft_T_24, h4]
  · by_cases e : id = 192 ∧ k = 23
    · rw [e.1, e.2, ft_T_23, h3]
    · rw [ft_T_n (by omega), ft_T_n (by omega)]
theorem fq_250 {M : EM} : E_C 250 [192] M = some (0, ft_T M (-1) (-1)) := by
  unfold ft_T
  rw [r_ent (show e_rok 250 [192] = true from decide_eq_true r_ref)]
  show e_tv E_C (E_V 250) e_t250_0 [192] M = _
  unfold e_t250_0
  simp [zq_a, zq_b, zq_c, zq_d, zq_e, zq_f, zq_g, zq_h, zq_i, zq_j, zq_k, zq_l, zq_m, zq_n, zq_o, zq_p, zq_q, zq_r, zq_s, zq_t, zq_u, zq_v, zq_w, zq_x, zq_y, zq_z, zq_A, zq_B, zq_C, zq_D, zq_E, zq_F, zq_G, zq_H, zq_I, zq_J, zq_K, zq_L, ↓zq_M, ↓zq_N, ↓zq_O, ↓zq_P, ↓zq_Q, ↓zq_R, zq_S, zq_T, zq_U, zq_V, zq_W, zq_X, zq_Y, zq_Z, zq_0, zq_1, zq_2, zq_3, zq_4, zq_5, ↓zq_6, ↓zq_7, ↓zq_8, ↓zq_9, ↓zq_aa, zq_ab, zq_ac, zq_ad, zq_ae, zq_af, zq_ag, ↓zq_ah, ↓zq_ai, ↓zq_aj, zq_ak, ↓zq_al, ↓zq_am, e_b1, e_b2, x_o1, x_o2, r_P23, r_P24]
def fq_G (g : Int → Int) (C D : Nat → Int) (c d : Nat) (K : EM) : Prop := r_G K = g ∧ rx_K K ∧ K 192 20 = -1 ∧ K 192 13 = c ∧ K 192 14 = d ∧ (∀ j, K 202 j = C j) ∧ ∀ k, K 203 k = D k
theorem fq_G_cg {g : Int → Int} {C D : Nat → Int} {c d : Nat} {K K' : EM} (h : fq_G g C D c d K) (f : ∀ id k, id ≠ 205 → id ≠ 206 → id ≠ 212 → K' id k = K id k) : fq_G g C D c d K' := by
  obtain ⟨h1, ⟨k1, k2, k3⟩, h2, h3, h4, h5, h6⟩ := h
  exact ⟨(funext fun i => f _ _ (by decide) (by decide) (by decide)).trans h1, ⟨(f _ _ (by decide) (by decide) (by decide)).trans k1, (f _ _ (by decide) (by decide) (by decide)).trans k2, (f _ _ (by decide) (by decide) (by decide)).trans k3⟩, (f _ _ (by decide) (by decide) (by decide)).trans h2, (f _ _ (by decide) (by decide) (by decide)).trans h3, (f _ _ (by decide) (by decide) (by decide)).trans h4, fun j => (f _ _ (by decide) (by decide) (by decide)).trans (h5 j), fun j => (f _ _ (by decide) (by decide) (by decide)).trans (h6 j)⟩
theorem fq_249a {M : EM} {k c : Int} (h13 : M 192 13 = c) (hc : 0 ≤ c) (hk : k ≤ 0) : E_C 249 [192, k] M = some (0, ft_T M (-1) (-1)) := by
  have e13 : ∀ a, (e_up M 192 23 a) 192 13 = c := fun a => (c_up_n (by omega)).trans h13
  have q1 : ¬ 0 < k := by omega
  have q3 : ¬ (c < k) := by omega
  have q3' : k ≤ c := by omega
  unfold ft_T
  rw [r_ent (show e_rok 249 [192, k] = true from decide_eq_true r_ref)]
  show e_tv E_C (E_V 249) e_t249_0 [192, k] M = _
  unfold e_t249_0
  simp [zq_a, zq_b, zq_c, zq_d, zq_e, zq_f, zq_g, zq_h, zq_i, zq_j, zq_k, zq_l, zq_m, zq_n, zq_o, zq_p, zq_q, zq_r, zq_s, zq_t, zq_u, zq_v, zq_w, zq_x, zq_y, zq_z, zq_A, zq_B, zq_C, zq_D, zq_E, zq_F, zq_G, zq_H, zq_I, zq_J, zq_K, zq_L, ↓zq_M, ↓zq_N, ↓zq_O, ↓zq_P, ↓zq_Q, ↓zq_R, zq_S, zq_T, zq_U, zq_V, zq_W, zq_X, zq_Y, zq_Z, zq_0, zq_1, zq_2, zq_3, zq_4, zq_5, ↓zq_6, ↓zq_7, ↓zq_8, ↓zq_9, ↓zq_aa, zq_ab, zq_ac, zq_ad, zq_ae, zq_af, zq_ag, ↓zq_ah, ↓zq_ai, ↓zq_aj, zq_ak, ↓zq_al, ↓zq_am, e_b1, e_b2, x_o1, x_o2, r_O11, r_O12, r_F13, r_P23, r_P24, e13, hk, q1, q3, q3']
theorem fq_249b {M : EM} {k c v : Int} (h13 : M 192 13 = c) (hc : c ≤ 40) (hk : 0 < k) (hk2 : k ≤ c) (hv : M 202 (k - 1).toNat = v) : E_C 249 [192, k] M = some (0, ft_T M v (-1)) := by
  have e13 : ∀ a, (e_up M 192 23 a) 192 13 = c := fun a => (c_up_n (by omega)).trans h13
  have l1 : e_op 60 [202, k - 1] M = some v := (r_ld202 (by omega) (by omega)).trans (congrArg some hv)
  have q1 : ¬ k ≤ 0 := by omega
  have q2 : ¬ c < k := by omega
  have w1 : e_w (k - 1) = k - 1 := a_w_id (by omega) (by omega)
  unfold ft_T
  rw [r_ent (show e_rok 249 [192, k] = true from decide_eq_true r_ref)]
  show e_tv E_C (E_V 249) e_t249_0 [192, k] M = _
  unfold e_t249_0
  simp [zq_a, zq_b, zq_c, zq_d, zq_e, zq_f, zq_g, zq_h, zq_i, zq_j, zq_k, zq_l, zq_m, zq_n, zq_o, zq_p, zq_q, zq_r, zq_s, zq_t, zq_u, zq_v, zq_w, zq_x, zq_y, zq_z, zq_A, zq_B, zq_C, zq_D, zq_E, zq_F, zq_G, zq_H, zq_I, zq_J, zq_K, zq_L, ↓zq_M, ↓zq_N, ↓zq_O, ↓zq_P, ↓zq_Q, ↓zq_R, zq_S, zq_T, zq_U, zq_V, zq_W, zq_X, zq_Y, zq_Z, zq_0, zq_1, zq_2, zq_3, zq_4, zq_5, ↓zq_6, ↓zq_7, ↓zq_8, ↓zq_9, ↓zq_aa, zq_ab, zq_ac, zq_ad, zq_ae, zq_af, zq_ag, ↓zq_ah, ↓zq_ai, ↓zq_aj, zq_ak, ↓zq_al, ↓zq_am, e_b1, e_b2, x_o1, x_o2, r_O11, r_O12, r_F13, r_P23, r_P24, h13, e13, hk, hk2, q1, q2, w1, l1]
theorem fq_249c {M : EM} {k c v : Int} (h13 : M 192 13 = c) (hc : 0 ≤ c ∧ c ≤ 40) (hk : c < k) (hk2 : k ≤ c + 40) (hv : M 203 (k - 1 - c).toNat = v) : E_C 249 [192, k] M = some (0, ft_T M (-1) v) := by
  have e13 : ∀ a, (e_up M 192 23 a) 192 13 = c := fun a => (c_up_n (by omega)).trans h13
  have l2 : ∀ a, e_op 60 [203, k - 1 - c] (e_up M 192 23 a) = some v := fun a => (r_ld203 (by omega) (by omega)).trans (congrArg some ((c_up_n (by omega)).trans hv))
  have q0 : 0 < k := by omega
  have q1 : ¬ k ≤ 0 := by omega
  have q2 : ¬ k ≤ c := by omega
  have w1 : e_w (k - 1) = k - 1 := a_w_id (by omega) (by omega)
  have w2 : e_w (k - 1 - c) = k - 1 - c := a_w_id (by omega) (by omega)
  unfold ft_T
  rw [r_ent (show e_rok 249 [192, k] = true from decide_eq_true r_ref)]
  show e_tv E_C (E_V 249) e_t249_0 [192, k] M = _
  unfold e_t249_0
  simp [zq_a, zq_b, zq_c, zq_d, zq_e, zq_f, zq_g, zq_h, zq_i, zq_j, zq_k, zq_l, zq_m, zq_n, zq_o, zq_p, zq_q, zq_r, zq_s, zq_t, zq_u, zq_v, zq_w, zq_x, zq_y, zq_z, zq_A, zq_B, zq_C, zq_D, zq_E, zq_F, zq_G, zq_H, zq_I, zq_J, zq_K, zq_L, ↓zq_M, ↓zq_N, ↓zq_O, ↓zq_P, ↓zq_Q, ↓zq_R, zq_S, zq_T, zq_U, zq_V, zq_W, zq_X, zq_Y, zq_Z, zq_0, zq_1, zq_2, zq_3, zq_4, zq_5, ↓zq_6, ↓zq_7, ↓zq_8, ↓zq_9, ↓zq_aa, zq_ab, zq_ac, zq_ad, zq_ae, zq_af, zq_ag, ↓zq_ah, ↓zq_ai, ↓zq_aj, zq_ak, ↓zq_al, ↓zq_am, e_b1, e_b2, x_o1, x_o2, r_O11, r_O12, r_F13, r_P23, r_P24, h13, e13, hk, q0, q1, q2, w1, w2, l2]
theorem fq_249 {g : Int → Int} {C D : Nat → Int} {c d : Nat} {K : EM} (h : fq_G g C D c d K) (hc : c ≤ 40) (hd : d ≤ 40) {f : Nat} {k : Int} (hk : k = f) (hf : f < 1 + c + d) : E_C 249 [192, k] K = some (0, ft_T K (ft_dc C c f) (ft_br D c f)) := by
  obtain ⟨-, -, -, h13, -, h5, h6⟩ := h
  rcases Nat.lt_or_ge c f with q | q
  · rw [show ft_dc C c f = -1 from if_neg (by omega), show ft_br D c f = D (f - 1 - c) from if_pos q]
    exact fq_249c h13 ⟨by omega, by omega⟩ (by omega) (by omega) (by rw [h6, show (k - 1 - (c : Int)).toNat = f - 1 - c by omega])
  · rw [show ft_br D c f = -1 from if_neg (by omega)]
    rcases Nat.eq_zero_or_pos f with z | z
    · rw [show ft_dc C c f = -1 from if_neg (by omega)]
      exact fq_249a h13 (by omega) (by omega)
    · rw [show ft_dc C c f = C (f - 1) from if_pos ⟨z, q⟩]
      exact fq_249b h13 (by omega) (by omega) (by omega) (by rw [h5, show (k - 1).toNat = f - 1 by omega])
section FXM
variable {M : EM}
theorem rx_shf {a q : Int} (k22 : M 192 22 = 0) (k23 : M 192 23 = a) (h20 : M 192 20 = -1) (hq : 0 ≤ q ∧ q < 40) (ha : ∀ a : Nat, a < 4 → 0 ≤ r_G M (28 * q + 15 + (a : Int)) ∧ r_G M (28 * q + 15 + (a : Int)) ≤ 100) (hd : r_G M (28 * q + 19) = 0 ∨ r_G M (28 * q + 19) = 1) : E_C 192 [192, q] M = some (ft_SH (r_G M) a q, M) ∧ 0 ≤ ft_SH (r_G M) a q ∧ ft_SH (r_G M) a q ≤ 100 := by
  have a0 := ha 0 (by decide)
  have a1 := ha 1 (by decide)
  have a2 := ha 2 (by decide)
  rw [show 28 * q + 15 + ((0 : Nat) : Int) = 28 * q + 15 by omega] at a0
  rw [show 28 * q + 15 + ((1 : Nat) : Int) = 28 * q + 16 by omega] at a1
  rw [show 28 * q + 15 + ((2 : Nat) : Int) = 28 * q + 17 by omega] at a2
  obtain ⟨z1, z2⟩ := bx_shv a0 a1 a2
  have l0 : e_op 60 [193, 28 * q + 15] M = some (r_G M (28 * q + 15)) := r_rd (by omega) (by omega)
  have l1 : e_op 60 [193, 28 * q + 15 + 4] M = some (r_G M (28 * q + 19)) := (r_rd (by omega) (by omega)).trans (by rw [show 28 * q + 15 + 4 = 28 * q + 19 by omega])
  have l2 : e_op 60 [193, 28 * q + 15 + 1] M = some (r_G M (28 * q + 16)) := (r_rd (by omega) (by omega)).trans (by rw [show 28 * q + 15 + 1 = 28 * q + 16 by omega])
  have l3 : e_op 60 [193, 28 * q + 15 + 2] M = some (r_G M (28 * q + 17)) := (r_rd (by omega) (by omega)).trans (by rw [show 28 * q + 15 + 2 = 28 * q + 17 by omega])
  have b1 := e_b0 1 (by decide)
  have b2 := e_b0 2 (by decide)
  have b4 := e_b0 4 (by decide)
  have w1 : e_w (28 * q) = 28 * q := a_w_id (by omega) (by omega)
  have w2 : e_w (28 * q + 15) = 28 * q + 15 := a_w_id (by omega) (by omega)
  have w3 : e_w (28 * q + 15 + 4) = 28 * q + 15 + 4 := a_w_id (by omega) (by omega)
  have w4 : e_w (28 * q + 15 + 1) = 28 * q + 15 + 1 := a_w_id (by omega) (by omega)
  have w5 : e_w (28 * q + 15 + 2) = 28 * q + 15 + 2 := a_w_id (by omega) (by omega)
  unfold ft_SH hd_SH
  rcases hd with hd | hd
  · rw [hd] at l1
    rw [if_pos hd, ← z1]
    by_cases c : q = a
    · rw [if_pos c]
      refine ⟨?_, by decide, by decide⟩
      rw [← c] at k23
      rw [r_ent (show e_rok 192 [192, q] = true from decide_eq_true r_ref)]
      show e_tv E_C (E_V 192) e_t192_0 [192, q, 0, 0, 0, 0] M = _
      unfold e_t192_0
      simp [zq_a, zq_b, zq_c, zq_d, zq_e, zq_f, zq_g, zq_h, zq_i, zq_j, zq_k, zq_l, zq_m, zq_n, zq_o, zq_p, zq_q, zq_r, zq_s, zq_t, zq_u, zq_v, zq_w, zq_x, zq_y, zq_z, zq_A, zq_B, zq_C, zq_D, zq_E, zq_F, zq_G, zq_H, zq_I, zq_J, zq_K, zq_L, ↓zq_M, ↓zq_N, ↓zq_O, ↓zq_P, ↓zq_Q, ↓zq_R, zq_S, zq_T, zq_U, zq_V, zq_W, zq_X, zq_Y, zq_Z, zq_0, zq_1, zq_2, zq_3, zq_4, zq_5, ↓zq_6, ↓zq_7, ↓zq_8, ↓zq_9, ↓zq_aa, zq_ab, zq_ac, zq_ad, zq_ae, zq_af, zq_ag, ↓zq_ah, ↓zq_ai, ↓zq_aj, zq_ak, ↓zq_al, ↓zq_am, e_b1, e_b2, x_o1, x_o2, r_O0, r_F23, k23, w1, w2, w3, l1]
    · rw [if_neg c]
      refine ⟨?_, by rw [z1]; exact z2⟩
      have q1 : ¬ (a = q) := fun e => c e.symm
      rw [r_ent (show e_rok 192 [192, q] = true from decide_eq_true r_ref)]
      show e_tv E_C (E_V 192) e_t192_0 [192, q, 0, 0, 0, 0] M = _
      unfold e_t192_0
      simp [zq_a, zq_b, zq_c, zq_d, zq_e, zq_f, zq_g, zq_h, zq_i, zq_j, zq_k, zq_l, zq_m, zq_n, zq_o, zq_p, zq_q, zq_r, zq_s, zq_t, zq_u, zq_v, zq_w, zq_x, zq_y, zq_z, zq_A, zq_B, zq_C, zq_D, zq_E, zq_F, zq_G, zq_H, zq_I, zq_J, zq_K, zq_L, ↓zq_M, ↓zq_N, ↓zq_O, ↓zq_P, ↓zq_Q, ↓zq_R, zq_S, zq_T, zq_U, zq_V, zq_W, zq_X, zq_Y, zq_Z, zq_0, zq_1, zq_2, zq_3, zq_4, zq_5, ↓zq_6, ↓zq_7, ↓zq_8, ↓zq_9, ↓zq_aa, zq_ab, zq_ac, zq_ad, zq_ae, zq_af, zq_ag, ↓zq_ah, ↓zq_ai, ↓zq_aj, zq_ak, ↓zq_al, ↓zq_am, e_b1, e_b2, x_o1, x_o2, r_O0, r_F20, r_F22, r_F23, k22, k23, h20, q1, w1, w2, w3, w4, w5, l0, l1, l2, l3, b1, b2, b4]
  · rw [hd] at l1
    have e : (if q = a then (0 : Int) else if r_G M (28 * q + 19) = 0 then (r_G M (28 * q + 15) * (100 - r_G M (28 * q + 16)) * (100 - r_G M (28 * q + 17))).tdiv 10000 else 0) = 0 := by
      by_cases c : q = a
      · rw [if_pos c]
      · rw [if_neg c, if_neg (by omega)]
    rw [e]
    refine ⟨?_, by decide, by decide⟩
    rw [r_ent (show e_rok 192 [192, q] = true from decide_eq_true r_ref)]
    show e_tv E_C (E_V 192) e_t192_0 [192, q, 0, 0, 0, 0] M = _
    unfold e_t192_0
    simp [zq_a, zq_b, zq_c, zq_d, zq_e, zq_f, zq_g, zq_h, zq_i, zq_j, zq_k, zq_l, zq_m, zq_n, zq_o, zq_p, zq_q, zq_r, zq_s, zq_t, zq_u, zq_v, zq_w, zq_x, zq_y, zq_z, zq_A, zq_B, zq_C, zq_D, zq_E, zq_F, zq_G, zq_H, zq_I, zq_J, zq_K, zq_L, ↓zq_M, ↓zq_N, ↓zq_O, ↓zq_P, ↓zq_Q, ↓zq_R, zq_S, zq_T, zq_U, zq_V, zq_W, zq_X, zq_Y, zq_Z, zq_0, zq_1, zq_2, zq_3, zq_4, zq_5, ↓zq_6, ↓zq_7, ↓zq_8, ↓zq_9, ↓zq_aa, zq_ab, zq_ac, zq_ad, zq_ae, zq_af, zq_ag, ↓zq_ah, ↓zq_ai, ↓zq_aj, zq_ak, ↓zq_al, ↓zq_am, e_b1, e_b2, x_o1, x_o2, r_O0, w1, w2, w3, l1]
theorem rx_pvf {q w : Int} {i : Nat} (k22 : M 192 22 = 0) (hq : 0 ≤ q ∧ q < 40) (hi : i < 6) (hp : 0 ≤ r_G M (28 * q + 3 + (i : Int)) ∧ r_G M (28 * q + 3 + (i : Int)) ≤ 60) (hw : r_G M (28 * q + 18) = w) (hw1 : 0 ≤ w ∧ w ≤ 100) : E_C 193 [192, q, (i : Int)] M = some (cu_pv (r_G M) w q i, M) := by
  obtain ⟨z, hz⟩ : ∃ z, r_G M (28 * q + 3 + (i : Int)) = z := ⟨_, rfl⟩
  rw [hz] at hp
  have v := bx_pve (g := r_G M) (q := q) (i := i) hz.symm hp hw1
  have k : E_C 172 [192, q, (i : Int)] M = some (z, M) := by rw [← hz]; exact r_of hq ⟨by omega, by omega⟩
  have l1 : e_op 60 [193, 28 * q + 15 + 3] M = some w := (r_rd (by omega) (by omega)).trans (by rw [show 28 * q + 15 + 3 = 28 * q + 18 by omega, hw])
  obtain ⟨ii, hii⟩ : ∃ ii : Int, (i : Int) = ii := ⟨_, rfl⟩
  rw [hii] at k
  rw [hii, ← v]
  clear hz v hii
  have b8 := e_b0 8 (by decide)
  have w1 : e_w (28 * q) = 28 * q := a_w_id (by omega) (by omega)
  have w2 : e_w (28 * q + 15) = 28 * q + 15 := a_w_id (by omega) (by omega)
  have w3 : e_w (28 * q + 15 + 3) = 28 * q + 15 + 3 := a_w_id (by omega) (by omega)
  rw [r_ent (show e_rok 193 [192, q, ii] = true from decide_eq_true r_ref)]
  show e_tv E_C (E_V 193) e_t193_0 [192, q, ii, 0] M = _
  unfold e_t193_0
  simp [zq_a, zq_b, zq_c, zq_d, zq_e, zq_f, zq_g, zq_h, zq_i, zq_j, zq_k, zq_l, zq_m, zq_n, zq_o, zq_p, zq_q, zq_r, zq_s, zq_t, zq_u, zq_v, zq_w, zq_x, zq_y, zq_z, zq_A, zq_B, zq_C, zq_D, zq_E, zq_F, zq_G, zq_H, zq_I, zq_J, zq_K, zq_L, ↓zq_M, ↓zq_N, ↓zq_O, ↓zq_P, ↓zq_Q, ↓zq_R, zq_S, zq_T, zq_U, zq_V, zq_W, zq_X, zq_Y, zq_Z, zq_0, zq_1, zq_2, zq_3, zq_4, zq_5, ↓zq_6, ↓zq_7, ↓zq_8, ↓zq_9, ↓zq_aa, zq_ab, zq_ac, zq_ad, zq_ae, zq_af, zq_ag, ↓zq_ah, ↓zq_ai, ↓zq_aj, zq_ak, ↓zq_al, ↓zq_am, e_b1, e_b2, x_o1, x_o2, r_O0, r_F22, k22, w1, w2, w3, l1, b8, k]
theorem rx_dif {b q : Int} {y : Nat} (k24 : M 192 24 = b) (hq : 0 ≤ q ∧ q < 40) (hy : y < 8) : E_C 200 [192, q, (y : Int)] M = some (ft_DI (r_G M) b q y, M) := by
  obtain ⟨yy, hyy⟩ : ∃ yy : Int, (y : Int) = yy := ⟨_, rfl⟩
  unfold ft_DI
  rw [hyy]
  have y0 : 0 ≤ yy ∧ yy < 8 := by omega
  have l1 : e_op 60 [193, 28 * q + 20 + yy] M = some (r_G M (28 * q + 20 + yy)) := r_rd (by omega) (by omega)
  have w1 : e_w (28 * q) = 28 * q := a_w_id (by omega) (by omega)
  have w2 : e_w (28 * q + 20) = 28 * q + 20 := a_w_id (by omega) (by omega)
  have w3 : e_w (28 * q + 20 + yy) = 28 * q + 20 + yy := a_w_id (by omega) (by omega)
  have w4 : e_w (8 * q) = 8 * q := a_w_id (by omega) (by omega)
  have w5 : e_w (8 * q + yy) = 8 * q + yy := a_w_id (by omega) (by omega)
  by_cases c1 : r_G M (28 * q + 20 + yy) = 1
  · rw [c1] at l1
    by_cases c2 : b = 8 * q + yy
    · rw [if_neg (fun e => e.2 c2)]
      rw [c2] at k24
      rw [r_ent (show e_rok 200 [192, q, yy] = true from decide_eq_true r_ref)]
      show e_tv E_C (E_V 200) e_t200_0 [192, q, yy] M = _
      unfold e_t200_0
      simp [zq_a, zq_b, zq_c, zq_d, zq_e, zq_f, zq_g, zq_h, zq_i, zq_j, zq_k, zq_l, zq_m, zq_n, zq_o, zq_p, zq_q, zq_r, zq_s, zq_t, zq_u, zq_v, zq_w, zq_x, zq_y, zq_z, zq_A, zq_B, zq_C, zq_D, zq_E, zq_F, zq_G, zq_H, zq_I, zq_J, zq_K, zq_L, ↓zq_M, ↓zq_N, ↓zq_O, ↓zq_P, ↓zq_Q, ↓zq_R, zq_S, zq_T, zq_U, zq_V, zq_W, zq_X, zq_Y, zq_Z, zq_0, zq_1, zq_2, zq_3, zq_4, zq_5, ↓zq_6, ↓zq_7, ↓zq_8, ↓zq_9, ↓zq_aa, zq_ab, zq_ac, zq_ad, zq_ae, zq_af, zq_ag, ↓zq_ah, ↓zq_ai, ↓zq_aj, zq_ak, ↓zq_al, ↓zq_am, e_b1, e_b2, x_o1, x_o2, r_O0, r_F24, k24, w1, w2, w3, w4, w5, l1]
    · rw [if_pos ⟨c1, c2⟩]
      rw [r_ent (show e_rok 200 [192, q, yy] = true from decide_eq_true r_ref)]
      show e_tv E_C (E_V 200) e_t200_0 [192, q, yy] M = _
      unfold e_t200_0
      simp [zq_a, zq_b, zq_c, zq_d, zq_e, zq_f, zq_g, zq_h, zq_i, zq_j, zq_k, zq_l, zq_m, zq_n, zq_o, zq_p, zq_q, zq_r, zq_s, zq_t, zq_u, zq_v, zq_w, zq_x, zq_y, zq_z, zq_A, zq_B, zq_C, zq_D, zq_E, zq_F, zq_G, zq_H, zq_I, zq_J, zq_K, zq_L, ↓zq_M, ↓zq_N, ↓zq_O, ↓zq_P, ↓zq_Q, ↓zq_R, zq_S, zq_T, zq_U, zq_V, zq_W, zq_X, zq_Y, zq_Z, zq_0, zq_1, zq_2, zq_3, zq_4, zq_5, ↓zq_6, ↓zq_7, ↓zq_8, ↓zq_9, ↓zq_aa, zq_ab, zq_ac, zq_ad, zq_ae, zq_af, zq_ag, ↓zq_ah, ↓zq_ai, ↓zq_aj, zq_ak, ↓zq_al, ↓zq_am, e_b1, e_b2, x_o1, x_o2, r_O0, r_F24, k24, w1, w2, w3, w4, w5, l1, c2]
  · rw [if_neg (fun e => c1 e.1)]
    rw [r_ent (show e_rok 200 [192, q, yy] = true from decide_eq_true r_ref)]
    show e_tv E_C (E_V 200) e_t200_0 [192, q, yy] M = _
    unfold e_t200_0
    simp [zq_a, zq_b, zq_c, zq_d, zq_e, zq_f, zq_g, zq_h, zq_i, zq_j, zq_k, zq_l, zq_m, zq_n, zq_o, zq_p, zq_q, zq_r, zq_s, zq_t, zq_u, zq_v, zq_w, zq_x, zq_y, zq_z, zq_A, zq_B, zq_C, zq_D, zq_E, zq_F, zq_G, zq_H, zq_I, zq_J, zq_K, zq_L, ↓zq_M, ↓zq_N, ↓zq_O, ↓zq_P, ↓zq_Q, ↓zq_R, zq_S, zq_T, zq_U, zq_V, zq_W, zq_X, zq_Y, zq_Z, zq_0, zq_1, zq_2, zq_3, zq_4, zq_5, ↓zq_6, ↓zq_7, ↓zq_8, ↓zq_9, ↓zq_aa, zq_ab, zq_ac, zq_ad, zq_ae, zq_af, zq_ag, ↓zq_ah, ↓zq_ai, ↓zq_aj, zq_ak, ↓zq_al, ↓zq_am, e_b1, e_b2, x_o1, x_o2, r_O0, w1, w2, w3, l1, c1]
theorem rx_mdf {a b : Int} (k22 : M 192 22 = 0) (k23 : M 192 23 = a) (k24 : M 192 24 = b) (h20 : M 192 20 = -1) (hcs : hd_cs (r_G M)) : rx_md M (ft_SH (r_G M) a) (hd_WM (r_G M)) (ft_DI (r_G M) b) := by
  refine ⟨fun b q hb hb1 hq => ?_, fun q y h0 h1 hy => ⟨rx_dif k24 ⟨h0, h1⟩ hy, ft_DI_01⟩⟩
  have h40 : 0 ≤ q ∧ q < 40 := ⟨hq.1, by have := hq.2.1; omega⟩
  obtain ⟨c1, c2⟩ := hcs q hq.1 (by have := hq.2.1; omega) hq.2.2.1
  have a3 := c1 3 (by decide)
  rw [show 28 * q + 15 + ((3 : Nat) : Int) = 28 * q + 18 by omega] at a3
  exact ⟨rx_shf k22 k23 h20 h40 c1 c2, a3, fun i hi p0 p1 => rx_pvf k22 h40 hi ⟨p0, p1⟩ rfl a3⟩
end FXM
section FXL
variable {g : Int → Int} {C D : Nat → Int} {c d : Nat} {K : EM}
theorem fq_MD (h : fq_G g C D c d K) (hcs : hd_cs g) {a b : Int} : rx_MD (ft_T K a b) (ft_SH g a) (hd_WM g) (ft_DI g b) := by
  obtain ⟨h1, ⟨k1, k2, k3⟩, h2, -⟩ := h
  intro M' hs
  have e : r_G M' = g := (rx_sm_G hs).trans (ft_T_G.trans h1)
  have e2 : ∀ k, M' 192 k = ft_T K a b 192 k := fun k => hs _ _ (by decide) (by decide)
  have k := rx_mdf (M := M') (a := a) (b := b) ((e2 _).trans ((ft_T_n (by omega)).trans k1)) ((e2 _).trans ft_T_23) ((e2 _).trans ft_T_24) ((e2 _).trans ((ft_T_n (by omega)).trans h2)) (by rw [e]; exact hcs)
  rw [e] at k
  exact k
/-- CURRENTS with FAULT f -/
def fq_F (g : Int → Int) (p : Int) (C D : Nat → Int) (c f : Nat) (u : Int) : Int := bx_s g (ft_SH g (ft_dc C c f)) (hd_WM g) (ft_DI g (ft_br D c f)) (cu_ln g (cu_in g p)) (cu_nl g (cu_in g p)) u
theorem fq_202 (h : fq_G g C D c d K) (hW : r_W g) (hcs : hd_cs g) (hcv : hd_cvs g) {p u : Int} (hp : 0 ≤ p ∧ p < g 1198) {f : Nat} : E_C 202 [192, p, u] (ft_T K (ft_dc C c f) (ft_br D c f)) = some (fq_F g p C D c f u, ft_T K (ft_dc C c f) (ft_br D c f)) := by
  have e : r_G (ft_T K (ft_dc C c f) (ft_br D c f)) = g := ft_T_G.trans h.1
  have k := rx_currentOf (b := g 1198) (p := p) (u := u) (rx_MD_md (fq_MD (a := ft_dc C c f) (b := ft_br D c f) h hcs)) (by rw [e]; exact hcv) hW.2.1 (by rw [e]; exact Int.le_refl _) (by rw [e]; exact hW.2.2.1 p hp.1 hp.2)
  rw [e] at k
  exact k
theorem fq_252 (h : fq_G g C D c d K) (hc : c ≤ 40) (hd : d ≤ 40) (hW : r_W g) (hcs : hd_cs g) (hcv : hd_cvs g) {p dI : Int} (hp : 0 ≤ p ∧ p < g 1198) {dN : Nat} (hdI : dI = dN) (hd8 : dN < 8) {n m : Nat} {E : Nat → Int} (hn : K 197 dN = n) (hnm : n = 2 * m) (hn9 : n ≤ 120) (hE : ∀ i, i < n → K 198 (120 * dN + i) = E i) {f : Nat} {k : Int} (hk : k = f) (hf : f < 1 + c + d) : E_C 252 [192, p, dI, k] K = some (ft_Q E m (fq_F g p C D c) f, K) := by
  obtain ⟨T, hT⟩ : ∃ T, ft_T K (ft_dc C c f) (ft_br D c f) = T := ⟨_, rfl⟩
  have k249 := fq_249 h hc hd hk hf
  have k202 : ∀ u, E_C 202 [192, p, u] T = some (fq_F g p C D c f u, T) := fun u => by
    rw [← hT]
    exact fq_202 h hW hcs hcv hp
  have k250 : E_C 250 [192] T = some (0, K) := by
    rw [fq_250, ← hT, ft_T_0 h.2.1.2.1 h.2.1.2.2]
  rw [hT] at k249
  have fT : ∀ id k, ¬ (id = 192 ∧ (k = 23 ∨ k = 24)) → T id k = K id k := fun id k h => by
    rw [← hT]
    exact ft_T_n h
  have l4 := (r_isD dI T ⟨by omega, by omega⟩).2.2.1
  rw [show dI.toNat = dN by omega, fT _ _ (by omega), hn] at l4
  have w1 : e_w (120 * dI) = 120 * dI := a_w_id (by omega) (by omega)
  obtain ⟨F, hF⟩ : ∃ F, fq_F g p C D c f = F := ⟨_, rfl⟩
  rw [hF] at k202
  have lp : ∀ (t i : Nat) (x4 x5 : Int), x5 = ((2 * i : Nat) : Int) → i + t = m → x4 = ft_a E F i → E_V 252 11 [192, p, dI, k, x4, x5] T = some (ft_a E F m, K) := by
    intro t
    induction t with
    | zero =>
      intro i x4 x5 h5 hi h4
      have e : i = m := by omega
      subst e
      rw [← h4]
      obtain ⟨nn, hnn⟩ : ∃ nn : Int, (n : Int) = nn := ⟨_, rfl⟩
      rw [hnn] at l4
      have q : ¬ (x5 < nn) := by omega
      clear hE h4 fT hn
      rw [E_V_eq]
      show e_tv E_C (E_V 252) e_t252_11 [192, p, dI, k, x4, x5] T = _
      unfold e_t252_11
      simp [zq_a, zq_b, zq_c, zq_d, zq_e, zq_f, zq_g, zq_h, zq_i, zq_j, zq_k, zq_l, zq_m, zq_n, zq_o, zq_p, zq_q, zq_r, zq_s, zq_t, zq_u, zq_v, zq_w, zq_x, zq_y, zq_z, zq_A, zq_B, zq_C, zq_D, zq_E, zq_F, zq_G, zq_H, zq_I, zq_J, zq_K, zq_L, ↓zq_M, ↓zq_N, ↓zq_O, ↓zq_P, ↓zq_Q, ↓zq_R, zq_S, zq_T, zq_U, zq_V, zq_W, zq_X, zq_Y, zq_Z, zq_0, zq_1, zq_2, zq_3, zq_4, zq_5, ↓zq_6, ↓zq_7, ↓zq_8, ↓zq_9, ↓zq_aa, zq_ab, zq_ac, zq_ad, zq_ae, zq_af, zq_ag, ↓zq_ah, ↓zq_ai, ↓zq_aj, zq_ak, ↓zq_al, ↓zq_am, e_b1, e_b2, x_o1, x_o2, r_O4, l4, q, k250]
    | succ t ih =>
      intro i x4 x5 h5 hi h4
      obtain ⟨nn, hnn⟩ : ∃ nn : Int, (n : Int) = nn := ⟨_, rfl⟩
      rw [hnn] at l4
      have q : x5 < nn := by omega
      rcases ft_a01 (E := E) (F := F) i with z | z
      · have z2 := ft_a_0 z (t + 1)
        rw [show i + (t + 1) = m by omega] at z2
        rw [z2]
        have x40 : x4 = 0 := h4.trans z
        clear hE h4 fT hn ih z z2
        subst x40
        rw [E_V_eq]
        show e_tv E_C (E_V 252) e_t252_11 [192, p, dI, k, 0, x5] T = _
        unfold e_t252_11
        simp [zq_a, zq_b, zq_c, zq_d, zq_e, zq_f, zq_g, zq_h, zq_i, zq_j, zq_k, zq_l, zq_m, zq_n, zq_o, zq_p, zq_q, zq_r, zq_s, zq_t, zq_u, zq_v, zq_w, zq_x, zq_y, zq_z, zq_A, zq_B, zq_C, zq_D, zq_E, zq_F, zq_G, zq_H, zq_I, zq_J, zq_K, zq_L, ↓zq_M, ↓zq_N, ↓zq_O, ↓zq_P, ↓zq_Q, ↓zq_R, zq_S, zq_T, zq_U, zq_V, zq_W, zq_X, zq_Y, zq_Z, zq_0, zq_1, zq_2, zq_3, zq_4, zq_5, ↓zq_6, ↓zq_7, ↓zq_8, ↓zq_9, ↓zq_aa, zq_ab, zq_ac, zq_ad, zq_ae, zq_af, zq_ag, ↓zq_ah, ↓zq_ai, ↓zq_aj, zq_ak, ↓zq_al, ↓zq_am, e_b1, e_b2, x_o1, x_o2, r_O4, l4, q, k250]
      · have x41 : x4 = 1 := h4.trans z
        have as := ft_a_s z
        obtain ⟨ev, hev⟩ : ∃ ev, E (2 * i) = ev := ⟨_, rfl⟩
        obtain ⟨eo, heo⟩ : ∃ eo, E (2 * i + 1) = eo := ⟨_, rfl⟩
        rw [hev, heo] at as
        have l5 : e_op 60 [198, 120 * dI + x5] T = some ev := (r_rdE (by omega) (by omega)).trans (congrArg some (by rw [fT _ _ (by omega), show (120 * dI + x5).toNat = 120 * dN + 2 * i by omega, hE _ (by omega), hev]))
        have l6 : e_op 60 [198, 120 * dI + x5 + 1] T = some eo := (r_rdE (by omega) (by omega)).trans (congrArg some (by rw [fT _ _ (by omega), show (120 * dI + x5 + 1).toNat = 120 * dN + (2 * i + 1) by omega, hE _ (by omega), heo]))
        have w2 : e_w (120 * dI + x5) = 120 * dI + x5 := a_w_id (by omega) (by omega)
        have w3 : e_w (120 * dI + x5 + 1) = 120 * dI + x5 + 1 := a_w_id (by omega) (by omega)
        have w4 : e_w (x5 + 2) = x5 + 2 := a_w_id (by omega) (by omega)
        have kc := k202 ev
        have kk := ih (i + 1) (ft_a E F (i + 1)) (x5 + 2) (by omega) (by omega) rfl
        rw [as] at kk
        rw [← kk]
        clear hE h4 fT hn ih z as kk k202 k249
        subst x41
        generalize F ev = fv at *
        by_cases cc : fv = eo
        · rw [if_pos cc]
          rw [E_V_eq]
          show e_tv E_C (E_V 252) e_t252_11 [192, p, dI, k, 1, x5] T = _
          unfold e_t252_11
          simp [zq_a, zq_b, zq_c, zq_d, zq_e, zq_f, zq_g, zq_h, zq_i, zq_j, zq_k, zq_l, zq_m, zq_n, zq_o, zq_p, zq_q, zq_r, zq_s, zq_t, zq_u, zq_v, zq_w, zq_x, zq_y, zq_z, zq_A, zq_B, zq_C, zq_D, zq_E, zq_F, zq_G, zq_H, zq_I, zq_J, zq_K, zq_L, ↓zq_M, ↓zq_N, ↓zq_O, ↓zq_P, ↓zq_Q, ↓zq_R, zq_S, zq_T, zq_U, zq_V, zq_W, zq_X, zq_Y, zq_Z, zq_0, zq_1, zq_2, zq_3, zq_4, zq_5, ↓zq_6, ↓zq_7, ↓zq_8, ↓zq_9, ↓zq_aa, zq_ab, zq_ac, zq_ad, zq_ae, zq_af, zq_ag, ↓zq_ah, ↓zq_ai, ↓zq_aj, zq_ak, ↓zq_al, ↓zq_am, e_b1, e_b2, x_o1, x_o2, r_O4, r_O5, l4, q, w1, w2, w3, w4, l5, l6, kc, cc]
        · rw [if_neg cc]
          rw [E_V_eq]
          show e_tv E_C (E_V 252) e_t252_11 [192, p, dI, k, 1, x5] T = _
          unfold e_t252_11
          simp [zq_a, zq_b, zq_c, zq_d, zq_e, zq_f, zq_g, zq_h, zq_i, zq_j, zq_k, zq_l, zq_m, zq_n, zq_o, zq_p, zq_q, zq_r, zq_s, zq_t, zq_u, zq_v, zq_w, zq_x, zq_y, zq_z, zq_A, zq_B, zq_C, zq_D, zq_E, zq_F, zq_G, zq_H, zq_I, zq_J, zq_K, zq_L, ↓zq_M, ↓zq_N, ↓zq_O, ↓zq_P, ↓zq_Q, ↓zq_R, zq_S, zq_T, zq_U, zq_V, zq_W, zq_X, zq_Y, zq_Z, zq_0, zq_1, zq_2, zq_3, zq_4, zq_5, ↓zq_6, ↓zq_7, ↓zq_8, ↓zq_9, ↓zq_aa, zq_ab, zq_ac, zq_ad, zq_ae, zq_af, zq_ag, ↓zq_ah, ↓zq_ai, ↓zq_aj, zq_ak, ↓zq_al, ↓zq_am, e_b1, e_b2, x_o1, x_o2, r_O4, r_O5, l4, q, w1, w2, w3, w4, l5, l6, kc, cc]
  have kl := lp m 0 1 0 rfl (by omega) rfl
  show E_C 252 [192, p, dI, k] K = some (ft_a E (fq_F g p C D c f) m, K)
  rw [hF]
  clear lp k202 fT hE hn
  rw [r_ent (show e_rok 252 [192, p, dI, k] = true from decide_eq_true r_ref)]
  show e_tv E_C (E_V 252) e_t252_0 [192, p, dI, k, 0, 0] K = _
  unfold e_t252_0
  simp [zq_a, zq_b, zq_c, zq_d, zq_e, zq_f, zq_g, zq_h, zq_i, zq_j, zq_k, zq_l, zq_m, zq_n, zq_o, zq_p, zq_q, zq_r, zq_s, zq_t, zq_u, zq_v, zq_w, zq_x, zq_y, zq_z, zq_A, zq_B, zq_C, zq_D, zq_E, zq_F, zq_G, zq_H, zq_I, zq_J, zq_K, zq_L, ↓zq_M, ↓zq_N, ↓zq_O, ↓zq_P, ↓zq_Q, ↓zq_R, zq_S, zq_T, zq_U, zq_V, zq_W, zq_X, zq_Y, zq_Z, zq_0, zq_1, zq_2, zq_3, zq_4, zq_5, ↓zq_6, ↓zq_7, ↓zq_8, ↓zq_9, ↓zq_aa, zq_ab, zq_ac, zq_ad, zq_ae, zq_af, zq_ag, ↓zq_ah, ↓zq_ai, ↓zq_aj, zq_ak, ↓zq_al, ↓zq_am, e_b1, e_b2, x_o1, x_o2, k249, kl]
end FXL
