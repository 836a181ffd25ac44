/-! walls, suns, the trade, the room: the class's rows hold what the reference's row holds, now and in the image -/
theorem p_g (key : Nat) (a v : Int) (M : EM) (h : e_isO (key / 64) a ∧ e_fty key = 2 ∧ e_gr a.toNat (key % 64) = v) : e_gf key [a] M = some v := by
  rw [c_gr h.1 h.2.1, h.2.2]
theorem p_lay {a i v : Int} {M : EM} (h : 8 ≤ a ∧ a.toNat < e_N ∧ (e_sh a.toNat).1 = 100) : E_C 147 [a, i, v] M = some (0, if 0 ≤ i ∧ i < ((e_sh a.toNat).2 : Int) then e_up M a.toNat i.toNat v else M) := by
  obtain ⟨b1, b2, b3⟩ := h
  rw [r_ent (show e_rok 147 [a, i, v] = true from rfl)]
  show e_tv E_C (E_V 147) e_t147_0 [a, i, v] M = _
  unfold e_t147_0
  have hne : a.toNat ≠ 0 := by omega
  have hsz : e_sz M a.toNat = (e_sh a.toNat).2 := if_neg hne
  have ha : ¬ (a = -1) := by omega
  have h0 : 0 ≤ a := by omega
  rcases x_le 0 i with ⟨q, q_n⟩ | ⟨q, q_n⟩
  · rcases x_lt i ((e_sh a.toNat).2 : Int) with ⟨c, c_n⟩ | ⟨c, c_n⟩
    · have hin : 8 ≤ a ∧ e_in2 M 100 a i := ⟨b1, by omega, b2, b3, q, by rw [hsz]; omega⟩
      have hs : e_st 100 [a, i, v] M = some (e_up M a.toNat i.toNat v) := if_pos hin
      rw [if_pos ⟨q, c⟩]
      simp [zq_a, zq_b, zq_c, zq_d, zq_e, zq_f, zq_g, zq_h, zq_i, zq_j, zq_k, zq_l, zq_m, zq_n, zq_o, zq_p, zq_q, zq_r, zq_s, zq_t, zq_u, zq_v, zq_w, zq_x, zq_y, zq_z, zq_A, zq_B, zq_C, zq_D, zq_E, zq_F, zq_G, zq_H, zq_I, zq_J, zq_K, zq_L, ↓zq_M, ↓zq_N, ↓zq_O, ↓zq_P, ↓zq_Q, ↓zq_R, zq_S, zq_T, zq_U, zq_V, zq_W, zq_X, zq_Y, zq_Z, zq_0, zq_1, zq_2, zq_3, zq_4, zq_5, ↓zq_6, ↓zq_7, ↓zq_8, ↓zq_9, ↓zq_aa, zq_ab, zq_ac, zq_ad, zq_ae, zq_af, zq_ag, ↓zq_ah, ↓zq_ai, ↓zq_aj, zq_ak, ↓zq_al, ↓zq_am, e_op, e_b1, e_b2, ha, h0, q, q_n, c, c_n, hsz, b2, b3, hs]
    · rw [if_neg (fun e => c e.2)]
      simp [zq_a, zq_b, zq_c, zq_d, zq_e, zq_f, zq_g, zq_h, zq_i, zq_j, zq_k, zq_l, zq_m, zq_n, zq_o, zq_p, zq_q, zq_r, zq_s, zq_t, zq_u, zq_v, zq_w, zq_x, zq_y, zq_z, zq_A, zq_B, zq_C, zq_D, zq_E, zq_F, zq_G, zq_H, zq_I, zq_J, zq_K, zq_L, ↓zq_M, ↓zq_N, ↓zq_O, ↓zq_P, ↓zq_Q, ↓zq_R, zq_S, zq_T, zq_U, zq_V, zq_W, zq_X, zq_Y, zq_Z, zq_0, zq_1, zq_2, zq_3, zq_4, zq_5, ↓zq_6, ↓zq_7, ↓zq_8, ↓zq_9, ↓zq_aa, zq_ab, zq_ac, zq_ad, zq_ae, zq_af, zq_ag, ↓zq_ah, ↓zq_ai, ↓zq_aj, zq_ak, ↓zq_al, ↓zq_am, e_op, e_b1, e_b2, ha, h0, q, q_n, c, c_n, hsz, b2, b3]
  · rw [if_neg (fun e => q e.1)]
    simp [zq_a, zq_b, zq_c, zq_d, zq_e, zq_f, zq_g, zq_h, zq_i, zq_j, zq_k, zq_l, zq_m, zq_n, zq_o, zq_p, zq_q, zq_r, zq_s, zq_t, zq_u, zq_v, zq_w, zq_x, zq_y, zq_z, zq_A, zq_B, zq_C, zq_D, zq_E, zq_F, zq_G, zq_H, zq_I, zq_J, zq_K, zq_L, ↓zq_M, ↓zq_N, ↓zq_O, ↓zq_P, ↓zq_Q, ↓zq_R, zq_S, zq_T, zq_U, zq_V, zq_W, zq_X, zq_Y, zq_Z, zq_0, zq_1, zq_2, zq_3, zq_4, zq_5, ↓zq_6, ↓zq_7, ↓zq_8, ↓zq_9, ↓zq_aa, zq_ab, zq_ac, zq_ad, zq_ae, zq_af, zq_ag, ↓zq_ah, ↓zq_ai, ↓zq_aj, zq_ak, ↓zq_al, ↓zq_am, e_op, e_b1, e_b2, ha, h0, q, q_n, hsz, b2, b3]
theorem p_layd {a i v : Int} {n : Nat} (h : 8 ≤ a ∧ a.toNat < e_N ∧ e_sh a.toNat = (100, n)) (hi : 0 ≤ i ∧ i < (n : Int)) (M : EM) : E_C 147 [a, i, v] M = some (0, e_up M a.toNat i.toNat v) := by
  rw [p_lay ⟨h.1, h.2.1, by rw [h.2.2]⟩, h.2.2, if_pos hi]
theorem p_at {a i : Int} {n : Nat} (h : 8 ≤ a ∧ a.toNat < e_N ∧ e_sh a.toNat = (100, n)) (hi : 0 ≤ i ∧ i < (n : Int)) (M : EM) : E_C 146 [a, i] M = some (M a.toNat i.toNat, M) := by
  have h0 := h.1
  rw [c_at a i M (Or.inr ⟨by omega, h.2.1, by rw [h.2.2]⟩), h.2.2, if_pos ⟨by omega, hi⟩]
theorem p_hour (h : Int) (M : EM) : E_C 151 [h] M = some (if 0 ≤ h ∧ h ≤ 11 then 1 else 0, M) := by
  rw [r_ent (show e_rok 151 [h] = true from rfl)]
  show e_tv E_C (E_V 151) e_t151_0 [h] M = _
  unfold e_t151_0
  rcases x_le 0 h with ⟨q, q_n⟩ | ⟨q, q_n⟩
  · rcases x_lt h 12 with ⟨c, c_n⟩ | ⟨c, c_n⟩
    · rw [if_pos ⟨q, by omega⟩]
      simp [zq_a, zq_b, zq_c, zq_d, zq_e, zq_f, zq_g, zq_h, zq_i, zq_j, zq_k, zq_l, zq_m, zq_n, zq_o, zq_p, zq_q, zq_r, zq_s, zq_t, zq_u, zq_v, zq_w, zq_x, zq_y, zq_z, zq_A, zq_B, zq_C, zq_D, zq_E, zq_F, zq_G, zq_H, zq_I, zq_J, zq_K, zq_L, ↓zq_M, ↓zq_N, ↓zq_O, ↓zq_P, ↓zq_Q, ↓zq_R, zq_S, zq_T, zq_U, zq_V, zq_W, zq_X, zq_Y, zq_Z, zq_0, zq_1, zq_2, zq_3, zq_4, zq_5, ↓zq_6, ↓zq_7, ↓zq_8, ↓zq_9, ↓zq_aa, zq_ab, zq_ac, zq_ad, zq_ae, zq_af, zq_ag, ↓zq_ah, ↓zq_ai, ↓zq_aj, zq_ak, ↓zq_al, ↓zq_am, e_b1, e_b2, x_o1, x_o2, q, q_n, c, c_n]
    · rw [if_neg (by omega)]
      simp [zq_a, zq_b, zq_c, zq_d, zq_e, zq_f, zq_g, zq_h, zq_i, zq_j, zq_k, zq_l, zq_m, zq_n, zq_o, zq_p, zq_q, zq_r, zq_s, zq_t, zq_u, zq_v, zq_w, zq_x, zq_y, zq_z, zq_A, zq_B, zq_C, zq_D, zq_E, zq_F, zq_G, zq_H, zq_I, zq_J, zq_K, zq_L, ↓zq_M, ↓zq_N, ↓zq_O, ↓zq_P, ↓zq_Q, ↓zq_R, zq_S, zq_T, zq_U, zq_V, zq_W, zq_X, zq_Y, zq_Z, zq_0, zq_1, zq_2, zq_3, zq_4, zq_5, ↓zq_6, ↓zq_7, ↓zq_8, ↓zq_9, ↓zq_aa, zq_ab, zq_ac, zq_ad, zq_ae, zq_af, zq_ag, ↓zq_ah, ↓zq_ai, ↓zq_aj, zq_ak, ↓zq_al, ↓zq_am, e_b1, e_b2, x_o1, x_o2, q, q_n, c, c_n]
  · rw [if_neg (by omega)]
    simp [zq_a, zq_b, zq_c, zq_d, zq_e, zq_f, zq_g, zq_h, zq_i, zq_j, zq_k, zq_l, zq_m, zq_n, zq_o, zq_p, zq_q, zq_r, zq_s, zq_t, zq_u, zq_v, zq_w, zq_x, zq_y, zq_z, zq_A, zq_B, zq_C, zq_D, zq_E, zq_F, zq_G, zq_H, zq_I, zq_J, zq_K, zq_L, ↓zq_M, ↓zq_N, ↓zq_O, ↓zq_P, ↓zq_Q, ↓zq_R, zq_S, zq_T, zq_U, zq_V, zq_W, zq_X, zq_Y, zq_Z, zq_0, zq_1, zq_2, zq_3, zq_4, zq_5, ↓zq_6, ↓zq_7, ↓zq_8, ↓zq_9, ↓zq_aa, zq_ab, zq_ac, zq_ad, zq_ae, zq_af, zq_ag, ↓zq_ah, ↓zq_ai, ↓zq_aj, zq_ak, ↓zq_al, ↓zq_am, e_b1, e_b2, x_o1, x_o2, q, q_n]
theorem p_704 (M : EM) : e_gf 704 [8] M = some 9 := p_g 704 8 9 M (by decide +kernel)
theorem p_195 (M : EM) : e_gf 195 [9] M = some 26 := p_g 195 9 26 M (by decide +kernel)
theorem p_196 (M : EM) : e_gf 196 [9] M = some 33 := p_g 196 9 33 M (by decide +kernel)
theorem p_384 (M : EM) : e_gf 384 [26] M = some 27 := p_g 384 26 27 M (by decide +kernel)
theorem p_385 (M : EM) : e_gf 385 [26] M = some 28 := p_g 385 26 28 M (by decide +kernel)
theorem p_386 (M : EM) : e_gf 386 [26] M = some 29 := p_g 386 26 29 M (by decide +kernel)
theorem p_387 (M : EM) : e_gf 387 [26] M = some 30 := p_g 387 26 30 M (by decide +kernel)
theorem p_388 (M : EM) : e_gf 388 [26] M = some 31 := p_g 388 26 31 M (by decide +kernel)
theorem p_576 (M : EM) : e_gf 576 [33] M = some 34 := p_g 576 33 34 M (by decide +kernel)
theorem p_577 (M : EM) : e_gf 577 [33] M = some 35 := p_g 577 33 35 M (by decide +kernel)
theorem p_578 (M : EM) : e_gf 578 [33] M = some (M 33 2) := c_gf (by decide +kernel) (by decide +kernel)
theorem p_p578 (v : Int) (M : EM) : e_pf 578 [33, v] M = some (e_up M 33 2 v) := c_pf (by decide +kernel) (by decide +kernel)
def p_wl3 (M : EM) (k x y h : Int) : EM := e_up (e_up (e_up M 27 k.toNat x) 28 k.toNat y) 29 k.toNat h
theorem p_wall {k x y h : Int} {M : EM} : E_C 118 [8, k, x, y, h] M = if (0 ≤ k ∧ k ≤ 9) ∧ (0 ≤ x ∧ x ≤ 19) ∧ (0 ≤ y ∧ y ≤ 11) ∧ 0 ≤ h ∧ h ≤ 30 then some (M 29 k.toNat, p_wl3 M k x y h) else some (-1, M) := by
  have s0 : E_C 118 [8, k, x, y, h] M = e_tv E_C (E_V 118) e_t118_0 [8, k, x, y, h, 0, 0, 0] M := r_ent (u := 118) (as := [8, k, x, y, h]) (M := M) (decide_eq_true c_this)
  rw [s0]
  unfold e_t118_0
  rcases x_le 0 k with ⟨a0, a0_n⟩ | ⟨a0, a0_n⟩
  · rcases x_lt k 10 with ⟨a1, a1_n⟩ | ⟨a1, a1_n⟩
    · rcases x_le 0 x with ⟨b0, b0_n⟩ | ⟨b0, b0_n⟩
      · rcases x_lt x 20 with ⟨b1, b1_n⟩ | ⟨b1, b1_n⟩
        · rcases x_le 0 y with ⟨d0, d0_n⟩ | ⟨d0, d0_n⟩
          · rcases x_lt y 12 with ⟨d1, d1_n⟩ | ⟨d1, d1_n⟩
            · rcases x_le 0 h with ⟨e0, e0_n⟩ | ⟨e0, e0_n⟩
              · rcases x_lt 30 h with ⟨e1, e1_n⟩ | ⟨e1, e1_n⟩
                · rw [if_neg (by omega)]
                  simp [zq_a, zq_b, zq_c, zq_d, zq_e, zq_f, zq_g, zq_h, zq_i, zq_j, zq_k, zq_l, zq_m, zq_n, zq_o, zq_p, zq_q, zq_r, zq_s, zq_t, zq_u, zq_v, zq_w, zq_x, zq_y, zq_z, zq_A, zq_B, zq_C, zq_D, zq_E, zq_F, zq_G, zq_H, zq_I, zq_J, zq_K, zq_L, ↓zq_M, ↓zq_N, ↓zq_O, ↓zq_P, ↓zq_Q, ↓zq_R, zq_S, zq_T, zq_U, zq_V, zq_W, zq_X, zq_Y, zq_Z, zq_0, zq_1, zq_2, zq_3, zq_4, zq_5, ↓zq_6, ↓zq_7, ↓zq_8, ↓zq_9, ↓zq_aa, zq_ab, zq_ac, zq_ad, zq_ae, zq_af, zq_ag, ↓zq_ah, ↓zq_ai, ↓zq_aj, zq_ak, ↓zq_al, ↓zq_am, e_b1, e_b2, x_o1, x_o2, a0, a0_n, a1, a1_n, b0, b0_n, b1, b1_n, d0, d0_n, d1, d1_n, e0, e0_n, e1, e1_n]
                · rw [if_pos (by omega)]
                  have t := fun M => p_at (a := 29) (i := k) (n := 10) (by decide +kernel) ⟨a0, by omega⟩ M
                  have l0 := fun v M => p_layd (a := 27) (i := k) (v := v) (n := 10) (by decide +kernel) ⟨a0, by omega⟩ M
                  have l1 := fun v M => p_layd (a := 28) (i := k) (v := v) (n := 10) (by decide +kernel) ⟨a0, by omega⟩ M
                  have l2 := fun v M => p_layd (a := 29) (i := k) (v := v) (n := 10) (by decide +kernel) ⟨a0, by omega⟩ M
                  unfold p_wl3
                  simp [zq_a, zq_b, zq_c, zq_d, zq_e, zq_f, zq_g, zq_h, zq_i, zq_j, zq_k, zq_l, zq_m, zq_n, zq_o, zq_p, zq_q, zq_r, zq_s, zq_t, zq_u, zq_v, zq_w, zq_x, zq_y, zq_z, zq_A, zq_B, zq_C, zq_D, zq_E, zq_F, zq_G, zq_H, zq_I, zq_J, zq_K, zq_L, ↓zq_M, ↓zq_N, ↓zq_O, ↓zq_P, ↓zq_Q, ↓zq_R, zq_S, zq_T, zq_U, zq_V, zq_W, zq_X, zq_Y, zq_Z, zq_0, zq_1, zq_2, zq_3, zq_4, zq_5, ↓zq_6, ↓zq_7, ↓zq_8, ↓zq_9, ↓zq_aa, zq_ab, zq_ac, zq_ad, zq_ae, zq_af, zq_ag, ↓zq_ah, ↓zq_ai, ↓zq_aj, zq_ak, ↓zq_al, ↓zq_am, e_b1, e_b2, x_o1, x_o2, p_704, p_195, p_384, p_385, p_386, t, l0, l1, l2, a0, a0_n, a1, a1_n, b0, b0_n, b1, b1_n, d0, d0_n, d1, d1_n, e0, e0_n, e1, e1_n]
              · rw [if_neg (by omega)]
                simp [zq_a, zq_b, zq_c, zq_d, zq_e, zq_f, zq_g, zq_h, zq_i, zq_j, zq_k, zq_l, zq_m, zq_n, zq_o, zq_p, zq_q, zq_r, zq_s, zq_t, zq_u, zq_v, zq_w, zq_x, zq_y, zq_z, zq_A, zq_B, zq_C, zq_D, zq_E, zq_F, zq_G, zq_H, zq_I, zq_J, zq_K, zq_L, ↓zq_M, ↓zq_N, ↓zq_O, ↓zq_P, ↓zq_Q, ↓zq_R, zq_S, zq_T, zq_U, zq_V, zq_W, zq_X, zq_Y, zq_Z, zq_0, zq_1, zq_2, zq_3, zq_4, zq_5, ↓zq_6, ↓zq_7, ↓zq_8, ↓zq_9, ↓zq_aa, zq_ab, zq_ac, zq_ad, zq_ae, zq_af, zq_ag, ↓zq_ah, ↓zq_ai, ↓zq_aj, zq_ak, ↓zq_al, ↓zq_am, e_b1, e_b2, x_o1, x_o2, a0, a0_n, a1, a1_n, b0, b0_n, b1, b1_n, d0, d0_n, d1, d1_n, e0, e0_n]
            · rw [if_neg (by omega)]
              simp [zq_a, zq_b, zq_c, zq_d, zq_e, zq_f, zq_g, zq_h, zq_i, zq_j, zq_k, zq_l, zq_m, zq_n, zq_o, zq_p, zq_q, zq_r, zq_s, zq_t, zq_u, zq_v, zq_w, zq_x, zq_y, zq_z, zq_A, zq_B, zq_C, zq_D, zq_E, zq_F, zq_G, zq_H, zq_I, zq_J, zq_K, zq_L, ↓zq_M, ↓zq_N, ↓zq_O, ↓zq_P, ↓zq_Q, ↓zq_R, zq_S, zq_T, zq_U, zq_V, zq_W, zq_X, zq_Y, zq_Z, zq_0, zq_1, zq_2, zq_3, zq_4, zq_5, ↓zq_6, ↓zq_7, ↓zq_8, ↓zq_9, ↓zq_aa, zq_ab, zq_ac, zq_ad, zq_ae, zq_af, zq_ag, ↓zq_ah, ↓zq_ai, ↓zq_aj, zq_ak, ↓zq_al, ↓zq_am, e_b1, e_b2, x_o1, x_o2, a0, a0_n, a1, a1_n, b0, b0_n, b1, b1_n, d0, d0_n, d1, d1_n]
          · rw [if_neg (by omega)]
            simp [zq_a, zq_b, zq_c, zq_d, zq_e, zq_f, zq_g, zq_h, zq_i, zq_j, zq_k, zq_l, zq_m, zq_n, zq_o, zq_p, zq_q, zq_r, zq_s, zq_t, zq_u, zq_v, zq_w, zq_x, zq_y, zq_z, zq_A, zq_B, zq_C, zq_D, zq_E, zq_F, zq_G, zq_H, zq_I, zq_J, zq_K, zq_L, ↓zq_M, ↓zq_N, ↓zq_O, ↓zq_P, ↓zq_Q, ↓zq_R, zq_S, zq_T, zq_U, zq_V, zq_W, zq_X, zq_Y, zq_Z, zq_0, zq_1, zq_2, zq_3, zq_4, zq_5, ↓zq_6, ↓zq_7, ↓zq_8, ↓zq_9, ↓zq_aa, zq_ab, zq_ac, zq_ad, zq_ae, zq_af, zq_ag, ↓zq_ah, ↓zq_ai, ↓zq_aj, zq_ak, ↓zq_al, ↓zq_am, e_b1, e_b2, x_o1, x_o2, a0, a0_n, a1, a1_n, b0, b0_n, b1, b1_n, d0, d0_n]
        · rw [if_neg (by omega)]
          simp [zq_a, zq_b, zq_c, zq_d, zq_e, zq_f, zq_g, zq_h, zq_i, zq_j, zq_k, zq_l, zq_m, zq_n, zq_o, zq_p, zq_q, zq_r, zq_s, zq_t, zq_u, zq_v, zq_w, zq_x, zq_y, zq_z, zq_A, zq_B, zq_C, zq_D, zq_E, zq_F, zq_G, zq_H, zq_I, zq_J, zq_K, zq_L, ↓zq_M, ↓zq_N, ↓zq_O, ↓zq_P, ↓zq_Q, ↓zq_R, zq_S, zq_T, zq_U, zq_V, zq_W, zq_X, zq_Y, zq_Z, zq_0, zq_1, zq_2, zq_3, zq_4, zq_5, ↓zq_6, ↓zq_7, ↓zq_8, ↓zq_9, ↓zq_aa, zq_ab, zq_ac, zq_ad, zq_ae, zq_af, zq_ag, ↓zq_ah, ↓zq_ai, ↓zq_aj, zq_ak, ↓zq_al, ↓zq_am, e_b1, e_b2, x_o1, x_o2, a0, a0_n, a1, a1_n, b0, b0_n, b1, b1_n]
      · rw [if_neg (by omega)]
        simp [zq_a, zq_b, zq_c, zq_d, zq_e, zq_f, zq_g, zq_h, zq_i, zq_j, zq_k, zq_l, zq_m, zq_n, zq_o, zq_p, zq_q, zq_r, zq_s, zq_t, zq_u, zq_v, zq_w, zq_x, zq_y, zq_z, zq_A, zq_B, zq_C, zq_D, zq_E, zq_F, zq_G, zq_H, zq_I, zq_J, zq_K, zq_L, ↓zq_M, ↓zq_N, ↓zq_O, ↓zq_P, ↓zq_Q, ↓zq_R, zq_S, zq_T, zq_U, zq_V, zq_W, zq_X, zq_Y, zq_Z, zq_0, zq_1, zq_2, zq_3, zq_4, zq_5, ↓zq_6, ↓zq_7, ↓zq_8, ↓zq_9, ↓zq_aa, zq_ab, zq_ac, zq_ad, zq_ae, zq_af, zq_ag, ↓zq_ah, ↓zq_ai, ↓zq_aj, zq_ak, ↓zq_al, ↓zq_am, e_b1, e_b2, x_o1, x_o2, a0, a0_n, a1, a1_n, b0, b0_n]
    · rw [if_neg (by omega)]
      rcases x_le 0 x with ⟨b0, b0_n⟩ | ⟨b0, b0_n⟩ <;> rcases x_lt x 20 with ⟨b1, b1_n⟩ | ⟨b1, b1_n⟩ <;> rcases x_le 0 y with ⟨d0, d0_n⟩ | ⟨d0, d0_n⟩ <;> rcases x_lt y 12 with ⟨d1, d1_n⟩ | ⟨d1, d1_n⟩ <;> simp [zq_a, zq_b, zq_c, zq_d, zq_e, zq_f, zq_g, zq_h, zq_i, zq_j, zq_k, zq_l, zq_m, zq_n, zq_o, zq_p, zq_q, zq_r, zq_s, zq_t, zq_u, zq_v, zq_w, zq_x, zq_y, zq_z, zq_A, zq_B, zq_C, zq_D, zq_E, zq_F, zq_G, zq_H, zq_I, zq_J, zq_K, zq_L, ↓zq_M, ↓zq_N, ↓zq_O, ↓zq_P, ↓zq_Q, ↓zq_R, zq_S, zq_T, zq_U, zq_V, zq_W, zq_X, zq_Y, zq_Z, zq_0, zq_1, zq_2, zq_3, zq_4, zq_5, ↓zq_6, ↓zq_7, ↓zq_8, ↓zq_9, ↓zq_aa, zq_ab, zq_ac, zq_ad, zq_ae, zq_af, zq_ag, ↓zq_ah, ↓zq_ai, ↓zq_aj, zq_ak, ↓zq_al, ↓zq_am, e_b1, e_b2, x_o1, x_o2, a0, a0_n, a1, a1_n, b0, b0_n, b1, b1_n, d0, d0_n, d1, d1_n]
  · rw [if_neg (by omega)]
    rcases x_le 0 x with ⟨b0, b0_n⟩ | ⟨b0, b0_n⟩ <;> rcases x_lt x 20 with ⟨b1, b1_n⟩ | ⟨b1, b1_n⟩ <;> rcases x_le 0 y with ⟨d0, d0_n⟩ | ⟨d0, d0_n⟩ <;> rcases x_lt y 12 with ⟨d1, d1_n⟩ | ⟨d1, d1_n⟩ <;> simp [zq_a, zq_b, zq_c, zq_d, zq_e, zq_f, zq_g, zq_h, zq_i, zq_j, zq_k, zq_l, zq_m, zq_n, zq_o, zq_p, zq_q, zq_r, zq_s, zq_t, zq_u, zq_v, zq_w, zq_x, zq_y, zq_z, zq_A, zq_B, zq_C, zq_D, zq_E, zq_F, zq_G, zq_H, zq_I, zq_J, zq_K, zq_L, ↓zq_M, ↓zq_N, ↓zq_O, ↓zq_P, ↓zq_Q, ↓zq_R, zq_S, zq_T, zq_U, zq_V, zq_W, zq_X, zq_Y, zq_Z, zq_0, zq_1, zq_2, zq_3, zq_4, zq_5, ↓zq_6, ↓zq_7, ↓zq_8, ↓zq_9, ↓zq_aa, zq_ab, zq_ac, zq_ad, zq_ae, zq_af, zq_ag, ↓zq_ah, ↓zq_ai, ↓zq_aj, zq_ak, ↓zq_al, ↓zq_am, e_b1, e_b2, x_o1, x_o2, a0, a0_n, b0, b0_n, b1, b1_n, d0, d0_n, d1, d1_n]
def p_sn2 (M : EM) (h d l : Int) : EM := e_up (e_up M 30 h.toNat d) 31 h.toNat l
theorem p_sun {h d l : Int} {M : EM} : E_C 119 [8, h, d, l] M = if (0 ≤ h ∧ h ≤ 11) ∧ (0 ≤ d ∧ d ≤ 7) ∧ 0 ≤ l ∧ l ≤ 30 then some (e_w (e_w (100 * M 30 h.toNat) + M 31 h.toNat), p_sn2 M h d l) else some (-1, M) := by
  have s0 : E_C 119 [8, h, d, l] M = e_tv E_C (E_V 119) e_t119_0 [8, h, d, l, 0, 0] M := r_ent (u := 119) (as := [8, h, d, l]) (M := M) (decide_eq_true c_this)
  rw [s0]
  unfold e_t119_0
  have hh := p_hour h
  by_cases q : 0 ≤ h ∧ h ≤ 11
  · simp only [if_pos q] at hh
    rcases x_le 0 d with ⟨b0, b0_n⟩ | ⟨b0, b0_n⟩
    · rcases x_le d 7 with ⟨b1, b1_n⟩ | ⟨b1, b1_n⟩
      · rcases x_le 0 l with ⟨e0, e0_n⟩ | ⟨e0, e0_n⟩
        · rcases x_lt 30 l with ⟨e1, e1_n⟩ | ⟨e1, e1_n⟩
          · rw [if_neg (by omega)]
            simp [zq_a, zq_b, zq_c, zq_d, zq_e, zq_f, zq_g, zq_h, zq_i, zq_j, zq_k, zq_l, zq_m, zq_n, zq_o, zq_p, zq_q, zq_r, zq_s, zq_t, zq_u, zq_v, zq_w, zq_x, zq_y, zq_z, zq_A, zq_B, zq_C, zq_D, zq_E, zq_F, zq_G, zq_H, zq_I, zq_J, zq_K, zq_L, ↓zq_M, ↓zq_N, ↓zq_O, ↓zq_P, ↓zq_Q, ↓zq_R, zq_S, zq_T, zq_U, zq_V, zq_W, zq_X, zq_Y, zq_Z, zq_0, zq_1, zq_2, zq_3, zq_4, zq_5, ↓zq_6, ↓zq_7, ↓zq_8, ↓zq_9, ↓zq_aa, zq_ab, zq_ac, zq_ad, zq_ae, zq_af, zq_ag, ↓zq_ah, ↓zq_ai, ↓zq_aj, zq_ak, ↓zq_al, ↓zq_am, e_b1, e_b2, x_o1, x_o2, hh, b0, b0_n, b1, b1_n, e0, e0_n, e1, e1_n]
          · rw [if_pos (by omega)]
            have t0 := fun M => p_at (a := 30) (i := h) (n := 12) (by decide +kernel) ⟨q.1, by omega⟩ M
            have t1 := fun M => p_at (a := 31) (i := h) (n := 12) (by decide +kernel) ⟨q.1, by omega⟩ M
            have l0 := fun v M => p_layd (a := 30) (i := h) (v := v) (n := 12) (by decide +kernel) ⟨q.1, by omega⟩ M
            have l1 := fun v M => p_layd (a := 31) (i := h) (v := v) (n := 12) (by decide +kernel) ⟨q.1, by omega⟩ M
            unfold p_sn2
            simp [zq_a, zq_b, zq_c, zq_d, zq_e, zq_f, zq_g, zq_h, zq_i, zq_j, zq_k, zq_l, zq_m, zq_n, zq_o, zq_p, zq_q, zq_r, zq_s, zq_t, zq_u, zq_v, zq_w, zq_x, zq_y, zq_z, zq_A, zq_B, zq_C, zq_D, zq_E, zq_F, zq_G, zq_H, zq_I, zq_J, zq_K, zq_L, ↓zq_M, ↓zq_N, ↓zq_O, ↓zq_P, ↓zq_Q, ↓zq_R, zq_S, zq_T, zq_U, zq_V, zq_W, zq_X, zq_Y, zq_Z, zq_0, zq_1, zq_2, zq_3, zq_4, zq_5, ↓zq_6, ↓zq_7, ↓zq_8, ↓zq_9, ↓zq_aa, zq_ab, zq_ac, zq_ad, zq_ae, zq_af, zq_ag, ↓zq_ah, ↓zq_ai, ↓zq_aj, zq_ak, ↓zq_al, ↓zq_am, e_b1, e_b2, x_o1, x_o2, p_704, p_195, p_387, p_388, t0, t1, l0, l1, hh, b0, b0_n, b1, b1_n, e0, e0_n, e1, e1_n]
        · rw [if_neg (by omega)]
          simp [zq_a, zq_b, zq_c, zq_d, zq_e, zq_f, zq_g, zq_h, zq_i, zq_j, zq_k, zq_l, zq_m, zq_n, zq_o, zq_p, zq_q, zq_r, zq_s, zq_t, zq_u, zq_v, zq_w, zq_x, zq_y, zq_z, zq_A, zq_B, zq_C, zq_D, zq_E, zq_F, zq_G, zq_H, zq_I, zq_J, zq_K, zq_L, ↓zq_M, ↓zq_N, ↓zq_O, ↓zq_P, ↓zq_Q, ↓zq_R, zq_S, zq_T, zq_U, zq_V, zq_W, zq_X, zq_Y, zq_Z, zq_0, zq_1, zq_2, zq_3, zq_4, zq_5, ↓zq_6, ↓zq_7, ↓zq_8, ↓zq_9, ↓zq_aa, zq_ab, zq_ac, zq_ad, zq_ae, zq_af, zq_ag, ↓zq_ah, ↓zq_ai, ↓zq_aj, zq_ak, ↓zq_al, ↓zq_am, e_b1, e_b2, x_o1, x_o2, hh, b0, b0_n, b1, b1_n, e0, e0_n]
      · rw [if_neg (by omega)]
        simp [zq_a, zq_b, zq_c, zq_d, zq_e, zq_f, zq_g, zq_h, zq_i, zq_j, zq_k, zq_l, zq_m, zq_n, zq_o, zq_p, zq_q, zq_r, zq_s, zq_t, zq_u, zq_v, zq_w, zq_x, zq_y, zq_z, zq_A, zq_B, zq_C, zq_D, zq_E, zq_F, zq_G, zq_H, zq_I, zq_J, zq_K, zq_L, ↓zq_M, ↓zq_N, ↓zq_O, ↓zq_P, ↓zq_Q, ↓zq_R, zq_S, zq_T, zq_U, zq_V, zq_W, zq_X, zq_Y, zq_Z, zq_0, zq_1, zq_2, zq_3, zq_4, zq_5, ↓zq_6, ↓zq_7, ↓zq_8, ↓zq_9, ↓zq_aa, zq_ab, zq_ac, zq_ad, zq_ae, zq_af, zq_ag, ↓zq_ah, ↓zq_ai, ↓zq_aj, zq_ak, ↓zq_al, ↓zq_am, e_b1, e_b2, x_o1, x_o2, hh, b0, b0_n, b1, b1_n]
    · rw [if_neg (by omega)]
      simp [zq_a, zq_b, zq_c, zq_d, zq_e, zq_f, zq_g, zq_h, zq_i, zq_j, zq_k, zq_l, zq_m, zq_n, zq_o, zq_p, zq_q, zq_r, zq_s, zq_t, zq_u, zq_v, zq_w, zq_x, zq_y, zq_z, zq_A, zq_B, zq_C, zq_D, zq_E, zq_F, zq_G, zq_H, zq_I, zq_J, zq_K, zq_L, ↓zq_M, ↓zq_N, ↓zq_O, ↓zq_P, ↓zq_Q, ↓zq_R, zq_S, zq_T, zq_U, zq_V, zq_W, zq_X, zq_Y, zq_Z, zq_0, zq_1, zq_2, zq_3, zq_4, zq_5, ↓zq_6, ↓zq_7, ↓zq_8, ↓zq_9, ↓zq_aa, zq_ab, zq_ac, zq_ad, zq_ae, zq_af, zq_ag, ↓zq_ah, ↓zq_ai, ↓zq_aj, zq_ak, ↓zq_al, ↓zq_am, e_b1, e_b2, x_o1, x_o2, hh, b0, b0_n]
  · simp only [if_neg q] at hh
    rw [if_neg (by omega)]
    simp [zq_a, zq_b, zq_c, zq_d, zq_e, zq_f, zq_g, zq_h, zq_i, zq_j, zq_k, zq_l, zq_m, zq_n, zq_o, zq_p, zq_q, zq_r, zq_s, zq_t, zq_u, zq_v, zq_w, zq_x, zq_y, zq_z, zq_A, zq_B, zq_C, zq_D, zq_E, zq_F, zq_G, zq_H, zq_I, zq_J, zq_K, zq_L, ↓zq_M, ↓zq_N, ↓zq_O, ↓zq_P, ↓zq_Q, ↓zq_R, zq_S, zq_T, zq_U, zq_V, zq_W, zq_X, zq_Y, zq_Z, zq_0, zq_1, zq_2, zq_3, zq_4, zq_5, ↓zq_6, ↓zq_7, ↓zq_8, ↓zq_9, ↓zq_aa, zq_ab, zq_ac, zq_ad, zq_ae, zq_af, zq_ag, ↓zq_ah, ↓zq_ai, ↓zq_aj, zq_ak, ↓zq_al, ↓zq_am, e_b1, e_b2, x_o1, x_o2, hh]
def p_tr2 (M : EM) (h t : Int) : EM := e_up (e_up M 34 h.toNat (t / 100)) 35 h.toNat (t % 100)
theorem p_trade {h t : Int} {M : EM} (ht : t ≤ 2147483647) : E_C 128 [8, h, t] M = if (0 ≤ h ∧ h ≤ 11) ∧ 0 ≤ t ∧ t / 100 ≤ 20 then some (e_w (e_w (100 * M 34 h.toNat) + M 35 h.toNat), p_tr2 M h t) else some (-1, M) := by
  have s0 : E_C 128 [8, h, t] M = e_tv E_C (E_V 128) e_t128_0 [8, h, t, 0, 0] M := r_ent (u := 128) (as := [8, h, t]) (M := M) (decide_eq_true c_this)
  rw [s0]
  unfold e_t128_0
  have hh := p_hour h
  by_cases q : 0 ≤ h ∧ h ≤ 11
  · simp only [if_pos q] at hh
    rcases x_le 0 t with ⟨e0, e0_n⟩ | ⟨e0, e0_n⟩
    · rcases x_lt 2099 t with ⟨e1, e1_n⟩ | ⟨e1, e1_n⟩
      · rw [if_neg (by omega)]
        simp [zq_a, zq_b, zq_c, zq_d, zq_e, zq_f, zq_g, zq_h, zq_i, zq_j, zq_k, zq_l, zq_m, zq_n, zq_o, zq_p, zq_q, zq_r, zq_s, zq_t, zq_u, zq_v, zq_w, zq_x, zq_y, zq_z, zq_A, zq_B, zq_C, zq_D, zq_E, zq_F, zq_G, zq_H, zq_I, zq_J, zq_K, zq_L, ↓zq_M, ↓zq_N, ↓zq_O, ↓zq_P, ↓zq_Q, ↓zq_R, zq_S, zq_T, zq_U, zq_V, zq_W, zq_X, zq_Y, zq_Z, zq_0, zq_1, zq_2, zq_3, zq_4, zq_5, ↓zq_6, ↓zq_7, ↓zq_8, ↓zq_9, ↓zq_aa, zq_ab, zq_ac, zq_ad, zq_ae, zq_af, zq_ag, ↓zq_ah, ↓zq_ai, ↓zq_aj, zq_ak, ↓zq_al, ↓zq_am, e_b1, e_b2, x_o1, x_o2, hh, e0, e0_n, e1, e1_n]
      · rw [if_pos (by omega)]
        obtain ⟨z1, z2⟩ := r_sq (v := t) (c := 100) ⟨e0, ht⟩ (by decide)
        have t0 := fun M => p_at (a := 34) (i := h) (n := 12) (by decide +kernel) ⟨q.1, by omega⟩ M
        have t1 := fun M => p_at (a := 35) (i := h) (n := 12) (by decide +kernel) ⟨q.1, by omega⟩ M
        have l0 := fun v M => p_layd (a := 34) (i := h) (v := v) (n := 12) (by decide +kernel) ⟨q.1, by omega⟩ M
        have l1 := fun v M => p_layd (a := 35) (i := h) (v := v) (n := 12) (by decide +kernel) ⟨q.1, by omega⟩ M
        unfold p_tr2
        simp [zq_a, zq_b, zq_c, zq_d, zq_e, zq_f, zq_g, zq_h, zq_i, zq_j, zq_k, zq_l, zq_m, zq_n, zq_o, zq_p, zq_q, zq_r, zq_s, zq_t, zq_u, zq_v, zq_w, zq_x, zq_y, zq_z, zq_A, zq_B, zq_C, zq_D, zq_E, zq_F, zq_G, zq_H, zq_I, zq_J, zq_K, zq_L, ↓zq_M, ↓zq_N, ↓zq_O, ↓zq_P, ↓zq_Q, ↓zq_R, zq_S, zq_T, zq_U, zq_V, zq_W, zq_X, zq_Y, zq_Z, zq_0, zq_1, zq_2, zq_3, zq_4, zq_5, ↓zq_6, ↓zq_7, ↓zq_8, ↓zq_9, ↓zq_aa, zq_ab, zq_ac, zq_ad, zq_ae, zq_af, zq_ag, ↓zq_ah, ↓zq_ai, ↓zq_aj, zq_ak, ↓zq_al, ↓zq_am, e_b1, e_b2, x_o1, x_o2, p_704, p_196, p_576, p_577, t0, t1, l0, l1, hh, e0, e0_n, e1, e1_n, z1, z2]
    · rw [if_neg (by omega)]
      simp [zq_a, zq_b, zq_c, zq_d, zq_e, zq_f, zq_g, zq_h, zq_i, zq_j, zq_k, zq_l, zq_m, zq_n, zq_o, zq_p, zq_q, zq_r, zq_s, zq_t, zq_u, zq_v, zq_w, zq_x, zq_y, zq_z, zq_A, zq_B, zq_C, zq_D, zq_E, zq_F, zq_G, zq_H, zq_I, zq_J, zq_K, zq_L, ↓zq_M, ↓zq_N, ↓zq_O, ↓zq_P, ↓zq_Q, ↓zq_R, zq_S, zq_T, zq_U, zq_V, zq_W, zq_X, zq_Y, zq_Z, zq_0, zq_1, zq_2, zq_3, zq_4, zq_5, ↓zq_6, ↓zq_7, ↓zq_8, ↓zq_9, ↓zq_aa, zq_ab, zq_ac, zq_ad, zq_ae, zq_af, zq_ag, ↓zq_ah, ↓zq_ai, ↓zq_aj, zq_ak, ↓zq_al, ↓zq_am, e_b1, e_b2, x_o1, x_o2, hh, e0, e0_n]
  · simp only [if_neg q] at hh
    rw [if_neg (by omega)]
    simp [zq_a, zq_b, zq_c, zq_d, zq_e, zq_f, zq_g, zq_h, zq_i, zq_j, zq_k, zq_l, zq_m, zq_n, zq_o, zq_p, zq_q, zq_r, zq_s, zq_t, zq_u, zq_v, zq_w, zq_x, zq_y, zq_z, zq_A, zq_B, zq_C, zq_D, zq_E, zq_F, zq_G, zq_H, zq_I, zq_J, zq_K, zq_L, ↓zq_M, ↓zq_N, ↓zq_O, ↓zq_P, ↓zq_Q, ↓zq_R, zq_S, zq_T, zq_U, zq_V, zq_W, zq_X, zq_Y, zq_Z, zq_0, zq_1, zq_2, zq_3, zq_4, zq_5, ↓zq_6, ↓zq_7, ↓zq_8, ↓zq_9, ↓zq_aa, zq_ab, zq_ac, zq_ad, zq_ae, zq_af, zq_ag, ↓zq_ah, ↓zq_ai, ↓zq_aj, zq_ak, ↓zq_al, ↓zq_am, e_b1, e_b2, x_o1, x_o2, hh]
theorem p_room {n : Int} {M : EM} : E_C 129 [8, n] M = if 0 ≤ n ∧ n ≤ 30 then some (M 33 2, e_up M 33 2 n) else some (-1, M) := by
  have s0 : E_C 129 [8, n] M = e_tv E_C (E_V 129) e_t129_0 [8, n, 0] M := r_ent (u := 129) (as := [8, n]) (M := M) (decide_eq_true c_this)
  rw [s0]
  unfold e_t129_0
  rcases x_le 0 n with ⟨e0, e0_n⟩ | ⟨e0, e0_n⟩
  · rcases x_lt 30 n with ⟨e1, e1_n⟩ | ⟨e1, e1_n⟩
    · rw [if_neg (by omega)]
      simp [zq_a, zq_b, zq_c, zq_d, zq_e, zq_f, zq_g, zq_h, zq_i, zq_j, zq_k, zq_l, zq_m, zq_n, zq_o, zq_p, zq_q, zq_r, zq_s, zq_t, zq_u, zq_v, zq_w, zq_x, zq_y, zq_z, zq_A, zq_B, zq_C, zq_D, zq_E, zq_F, zq_G, zq_H, zq_I, zq_J, zq_K, zq_L, ↓zq_M, ↓zq_N, ↓zq_O, ↓zq_P, ↓zq_Q, ↓zq_R, zq_S, zq_T, zq_U, zq_V, zq_W, zq_X, zq_Y, zq_Z, zq_0, zq_1, zq_2, zq_3, zq_4, zq_5, ↓zq_6, ↓zq_7, ↓zq_8, ↓zq_9, ↓zq_aa, zq_ab, zq_ac, zq_ad, zq_ae, zq_af, zq_ag, ↓zq_ah, ↓zq_ai, ↓zq_aj, zq_ak, ↓zq_al, ↓zq_am, e_b1, e_b2, x_o1, x_o2, e0, e0_n, e1, e1_n]
    · rw [if_pos (by omega)]
      simp [zq_a, zq_b, zq_c, zq_d, zq_e, zq_f, zq_g, zq_h, zq_i, zq_j, zq_k, zq_l, zq_m, zq_n, zq_o, zq_p, zq_q, zq_r, zq_s, zq_t, zq_u, zq_v, zq_w, zq_x, zq_y, zq_z, zq_A, zq_B, zq_C, zq_D, zq_E, zq_F, zq_G, zq_H, zq_I, zq_J, zq_K, zq_L, ↓zq_M, ↓zq_N, ↓zq_O, ↓zq_P, ↓zq_Q, ↓zq_R, zq_S, zq_T, zq_U, zq_V, zq_W, zq_X, zq_Y, zq_Z, zq_0, zq_1, zq_2, zq_3, zq_4, zq_5, ↓zq_6, ↓zq_7, ↓zq_8, ↓zq_9, ↓zq_aa, zq_ab, zq_ac, zq_ad, zq_ae, zq_af, zq_ag, ↓zq_ah, ↓zq_ai, ↓zq_aj, zq_ak, ↓zq_al, ↓zq_am, e_b1, e_b2, x_o1, x_o2, p_704, p_196, p_578, p_p578, e0, e0_n, e1, e1_n]
  · rw [if_neg (by omega)]
    simp [zq_a, zq_b, zq_c, zq_d, zq_e, zq_f, zq_g, zq_h, zq_i, zq_j, zq_k, zq_l, zq_m, zq_n, zq_o, zq_p, zq_q, zq_r, zq_s, zq_t, zq_u, zq_v, zq_w, zq_x, zq_y, zq_z, zq_A, zq_B, zq_C, zq_D, zq_E, zq_F, zq_G, zq_H, zq_I, zq_J, zq_K, zq_L, ↓zq_M, ↓zq_N, ↓zq_O, ↓zq_P, ↓zq_Q, ↓zq_R, zq_S, zq_T, zq_U, zq_V, zq_W, zq_X, zq_Y, zq_Z, zq_0, zq_1, zq_2, zq_3, zq_4, zq_5, ↓zq_6, ↓zq_7, ↓zq_8, ↓zq_9, ↓zq_aa, zq_ab, zq_ac, zq_ad, zq_ae, zq_af, zq_ag, ↓zq_ah, ↓zq_ai, ↓zq_aj, zq_ak, ↓zq_al, ↓zq_am, e_b1, e_b2, x_o1, x_o2, e0, e0_n]
