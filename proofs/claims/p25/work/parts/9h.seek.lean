/-! boxes that seek, by the reference -/
theorem r_ff {M : EM} {k j : Nat} {v : Int} (h : j ≠ k) : (e_up M 192 k v) 192 j = M 192 j := c_up_n (fun hc => h hc.2)
theorem r_step33 {b x2 : Int} {M : EM} (hJ : r_J M) (hx : -2147483648 ≤ x2 ∧ x2 ≤ 2147483647) : ∃ M', E_V 215 33 [192, b, x2] M = some (0, M') ∧ r_J M' ∧ a_fr r_wq M M' ∧ 0 ≤ M' 192 27 := by
  obtain ⟨u1, v1⟩ := r_qfld (k := 30) (v := 1) (by decide) (by decide) (by decide) hJ
  obtain ⟨u2, v2⟩ := r_qfld (k := 29) (v := x2) (by decide) (by decide) hx u1
  generalize hN : e_w (M 192 27 + e_w (b * M 192 28)) = N
  have hNr : -2147483648 ≤ N ∧ N ≤ 2147483647 := by rw [← hN]; exact a_w _
  obtain ⟨u3, v3⟩ := r_qfld (k := 27) (v := N) (by decide) (by decide) hNr u2
  have hf := a_fr_tr v1 (a_fr_tr v2 v3)
  rcases x_le 0 N with ⟨c1, c1_n⟩ | ⟨c1, c1_n⟩
  · rcases x_le N 500 with ⟨c2, c2_n⟩ | ⟨c2, c2_n⟩
    · refine ⟨_, ?_, u3, hf, by rw [c_up_s]; exact c1⟩
      rw [E_V_eq]
      show e_tv E_C (E_V 215) e_t215_33 [192, b, x2] M = _
      unfold e_t215_33
      simp [zq_a, zq_b, zq_c, zq_d, zq_e, zq_f, zq_g, zq_h, zq_i, zq_j, zq_k, zq_l, zq_m, zq_n, zq_o, zq_p, zq_q, zq_r, zq_s, zq_t, zq_u, zq_v, zq_w, zq_x, zq_y, zq_z, zq_A, zq_B, zq_C, zq_D, zq_E, zq_F, zq_G, zq_H, zq_I, zq_J, zq_K, zq_L, ↓zq_M, ↓zq_N, ↓zq_O, ↓zq_P, ↓zq_Q, ↓zq_R, zq_S, zq_T, zq_U, zq_V, zq_W, zq_X, zq_Y, zq_Z, zq_0, zq_1, zq_2, zq_3, zq_4, zq_5, ↓zq_6, ↓zq_7, ↓zq_8, ↓zq_9, ↓zq_aa, zq_ab, zq_ac, zq_ad, zq_ae, zq_af, zq_ag, ↓zq_ah, ↓zq_ai, ↓zq_aj, zq_ak, ↓zq_al, ↓zq_am, e_b1, e_b2, x_o1, x_o2, r_F9, r_F10, r_F13, r_F14, r_F15, r_F16, r_F17, r_F18, r_F20, r_F21, r_F22, r_F23, r_F24, r_F27, r_F28, r_F29, r_F30, r_F33, r_F34, r_F35, r_P9, r_P10, r_P13, r_P14, r_P15, r_P16, r_P17, r_P18, r_P20, r_P21, r_P22, r_P23, r_P24, r_P27, r_P28, r_P29, r_P30, r_P33, r_P34, r_P35, r_O0, r_O1, r_O2, r_O3, r_O4, r_O5, r_O6, r_O7, r_O8, r_O11, r_O12, r_O19, r_O25, r_O26, r_O31, r_O32, r_O36, r_O37, r_O38, r_O39, r_ff, c_up_s, hN, c1, c1_n, c2, c2_n]
    · obtain ⟨u4, v4⟩ := r_qfld (k := 27) (v := 500) (by decide) (by decide) (by decide) u3
      obtain ⟨u5, v5⟩ := r_qfld (k := 28) (v := e_w (-M 192 28)) (by decide) (by decide) (a_w _) u4
      refine ⟨_, ?_, u5, a_fr_tr hf (a_fr_tr v4 v5), by rw [r_ff (by decide), c_up_s]; decide⟩
      rw [E_V_eq]
      show e_tv E_C (E_V 215) e_t215_33 [192, b, x2] M = _
      unfold e_t215_33
      simp [zq_a, zq_b, zq_c, zq_d, zq_e, zq_f, zq_g, zq_h, zq_i, zq_j, zq_k, zq_l, zq_m, zq_n, zq_o, zq_p, zq_q, zq_r, zq_s, zq_t, zq_u, zq_v, zq_w, zq_x, zq_y, zq_z, zq_A, zq_B, zq_C, zq_D, zq_E, zq_F, zq_G, zq_H, zq_I, zq_J, zq_K, zq_L, ↓zq_M, ↓zq_N, ↓zq_O, ↓zq_P, ↓zq_Q, ↓zq_R, zq_S, zq_T, zq_U, zq_V, zq_W, zq_X, zq_Y, zq_Z, zq_0, zq_1, zq_2, zq_3, zq_4, zq_5, ↓zq_6, ↓zq_7, ↓zq_8, ↓zq_9, ↓zq_aa, zq_ab, zq_ac, zq_ad, zq_ae, zq_af, zq_ag, ↓zq_ah, ↓zq_ai, ↓zq_aj, zq_ak, ↓zq_al, ↓zq_am, e_b1, e_b2, x_o1, x_o2, r_F9, r_F10, r_F13, r_F14, r_F15, r_F16, r_F17, r_F18, r_F20, r_F21, r_F22, r_F23, r_F24, r_F27, r_F28, r_F29, r_F30, r_F33, r_F34, r_F35, r_P9, r_P10, r_P13, r_P14, r_P15, r_P16, r_P17, r_P18, r_P20, r_P21, r_P22, r_P23, r_P24, r_P27, r_P28, r_P29, r_P30, r_P33, r_P34, r_P35, r_O0, r_O1, r_O2, r_O3, r_O4, r_O5, r_O6, r_O7, r_O8, r_O11, r_O12, r_O19, r_O25, r_O26, r_O31, r_O32, r_O36, r_O37, r_O38, r_O39, r_ff, c_up_s, hN, c1, c1_n, c2, c2_n]
  · obtain ⟨u4, v4⟩ := r_qfld (k := 27) (v := 0) (by decide) (by decide) (by decide) u3
    obtain ⟨u5, v5⟩ := r_qfld (k := 28) (v := e_w (-M 192 28)) (by decide) (by decide) (a_w _) u4
    refine ⟨_, ?_, u5, a_fr_tr hf (a_fr_tr v4 v5), by rw [r_ff (by decide), c_up_s]; decide⟩
    rw [E_V_eq]
    show e_tv E_C (E_V 215) e_t215_33 [192, b, x2] M = _
    unfold e_t215_33
    simp [zq_a, zq_b, zq_c, zq_d, zq_e, zq_f, zq_g, zq_h, zq_i, zq_j, zq_k, zq_l, zq_m, zq_n, zq_o, zq_p, zq_q, zq_r, zq_s, zq_t, zq_u, zq_v, zq_w, zq_x, zq_y, zq_z, zq_A, zq_B, zq_C, zq_D, zq_E, zq_F, zq_G, zq_H, zq_I, zq_J, zq_K, zq_L, ↓zq_M, ↓zq_N, ↓zq_O, ↓zq_P, ↓zq_Q, ↓zq_R, zq_S, zq_T, zq_U, zq_V, zq_W, zq_X, zq_Y, zq_Z, zq_0, zq_1, zq_2, zq_3, zq_4, zq_5, ↓zq_6, ↓zq_7, ↓zq_8, ↓zq_9, ↓zq_aa, zq_ab, zq_ac, zq_ad, zq_ae, zq_af, zq_ag, ↓zq_ah, ↓zq_ai, ↓zq_aj, zq_ak, ↓zq_al, ↓zq_am, e_b1, e_b2, x_o1, x_o2, r_F9, r_F10, r_F13, r_F14, r_F15, r_F16, r_F17, r_F18, r_F20, r_F21, r_F22, r_F23, r_F24, r_F27, r_F28, r_F29, r_F30, r_F33, r_F34, r_F35, r_P9, r_P10, r_P13, r_P14, r_P15, r_P16, r_P17, r_P18, r_P20, r_P21, r_P22, r_P23, r_P24, r_P27, r_P28, r_P29, r_P30, r_P33, r_P34, r_P35, r_O0, r_O1, r_O2, r_O3, r_O4, r_O5, r_O6, r_O7, r_O8, r_O11, r_O12, r_O19, r_O25, r_O26, r_O31, r_O32, r_O36, r_O37, r_O38, r_O39, r_ff, c_up_s, hN, c1, c1_n]
theorem r_step {b : Int} {M : EM} (hJ : r_J M) (hu : 0 ≤ M 192 27) : ∃ M', E_C 215 [192, b] M = some (0, M') ∧ r_J M' ∧ a_fr r_wq M M' ∧ 0 ≤ M' 192 27 := by
  obtain ⟨v, kv, hv⟩ := r_power (u := M 192 27) hJ.1 hu
  have hst : ∃ M', E_V 215 33 [192, b, v] M = some (0, M') ∧ r_J M' ∧ a_fr r_wq M M' ∧ 0 ≤ M' 192 27 := r_step33 hJ hv
  by_cases c1 : M 192 30 = 0
  · obtain ⟨M', k, t⟩ := hst
    refine ⟨M', ?_, t⟩
    rw [r_ent (show e_rok 215 [192, b] = true from decide_eq_true r_ref)]
    show e_tv E_C (E_V 215) e_t215_0 [192, b, 0] M = _
    unfold e_t215_0
    simp [zq_a, zq_b, zq_c, zq_d, zq_e, zq_f, zq_g, zq_h, zq_i, zq_j, zq_k, zq_l, zq_m, zq_n, zq_o, zq_p, zq_q, zq_r, zq_s, zq_t, zq_u, zq_v, zq_w, zq_x, zq_y, zq_z, zq_A, zq_B, zq_C, zq_D, zq_E, zq_F, zq_G, zq_H, zq_I, zq_J, zq_K, zq_L, ↓zq_M, ↓zq_N, ↓zq_O, ↓zq_P, ↓zq_Q, ↓zq_R, zq_S, zq_T, zq_U, zq_V, zq_W, zq_X, zq_Y, zq_Z, zq_0, zq_1, zq_2, zq_3, zq_4, zq_5, ↓zq_6, ↓zq_7, ↓zq_8, ↓zq_9, ↓zq_aa, zq_ab, zq_ac, zq_ad, zq_ae, zq_af, zq_ag, ↓zq_ah, ↓zq_ai, ↓zq_aj, zq_ak, ↓zq_al, ↓zq_am, e_b1, e_b2, x_o1, x_o2, r_F9, r_F10, r_F13, r_F14, r_F15, r_F16, r_F17, r_F18, r_F20, r_F21, r_F22, r_F23, r_F24, r_F27, r_F28, r_F29, r_F30, r_F33, r_F34, r_F35, r_P9, r_P10, r_P13, r_P14, r_P15, r_P16, r_P17, r_P18, r_P20, r_P21, r_P22, r_P23, r_P24, r_P27, r_P28, r_P29, r_P30, r_P33, r_P34, r_P35, r_O0, r_O1, r_O2, r_O3, r_O4, r_O5, r_O6, r_O7, r_O8, r_O11, r_O12, r_O19, r_O25, r_O26, r_O31, r_O32, r_O36, r_O37, r_O38, r_O39, kv, c1, k]
  · rcases x_lt v (M 192 29) with ⟨c2, c2_n⟩ | ⟨c2, c2_n⟩
    · obtain ⟨u1, v1⟩ := r_qfld (k := 28) (v := e_w (-M 192 28)) (by decide) (by decide) (a_w _) hJ
      obtain ⟨M', k, t1, t2, t3⟩ := r_step33 (b := b) u1 hv
      refine ⟨M', ?_, t1, a_fr_tr v1 t2, t3⟩
      rw [r_ent (show e_rok 215 [192, b] = true from decide_eq_true r_ref)]
      show e_tv E_C (E_V 215) e_t215_0 [192, b, 0] M = _
      unfold e_t215_0
      simp [zq_a, zq_b, zq_c, zq_d, zq_e, zq_f, zq_g, zq_h, zq_i, zq_j, zq_k, zq_l, zq_m, zq_n, zq_o, zq_p, zq_q, zq_r, zq_s, zq_t, zq_u, zq_v, zq_w, zq_x, zq_y, zq_z, zq_A, zq_B, zq_C, zq_D, zq_E, zq_F, zq_G, zq_H, zq_I, zq_J, zq_K, zq_L, ↓zq_M, ↓zq_N, ↓zq_O, ↓zq_P, ↓zq_Q, ↓zq_R, zq_S, zq_T, zq_U, zq_V, zq_W, zq_X, zq_Y, zq_Z, zq_0, zq_1, zq_2, zq_3, zq_4, zq_5, ↓zq_6, ↓zq_7, ↓zq_8, ↓zq_9, ↓zq_aa, zq_ab, zq_ac, zq_ad, zq_ae, zq_af, zq_ag, ↓zq_ah, ↓zq_ai, ↓zq_aj, zq_ak, ↓zq_al, ↓zq_am, e_b1, e_b2, x_o1, x_o2, r_F9, r_F10, r_F13, r_F14, r_F15, r_F16, r_F17, r_F18, r_F20, r_F21, r_F22, r_F23, r_F24, r_F27, r_F28, r_F29, r_F30, r_F33, r_F34, r_F35, r_P9, r_P10, r_P13, r_P14, r_P15, r_P16, r_P17, r_P18, r_P20, r_P21, r_P22, r_P23, r_P24, r_P27, r_P28, r_P29, r_P30, r_P33, r_P34, r_P35, r_O0, r_O1, r_O2, r_O3, r_O4, r_O5, r_O6, r_O7, r_O8, r_O11, r_O12, r_O19, r_O25, r_O26, r_O31, r_O32, r_O36, r_O37, r_O38, r_O39, kv, c1, c2, c2_n, k]
    · obtain ⟨M', k, t⟩ := hst
      refine ⟨M', ?_, t⟩
      rw [r_ent (show e_rok 215 [192, b] = true from decide_eq_true r_ref)]
      show e_tv E_C (E_V 215) e_t215_0 [192, b, 0] M = _
      unfold e_t215_0
      simp [zq_a, zq_b, zq_c, zq_d, zq_e, zq_f, zq_g, zq_h, zq_i, zq_j, zq_k, zq_l, zq_m, zq_n, zq_o, zq_p, zq_q, zq_r, zq_s, zq_t, zq_u, zq_v, zq_w, zq_x, zq_y, zq_z, zq_A, zq_B, zq_C, zq_D, zq_E, zq_F, zq_G, zq_H, zq_I, zq_J, zq_K, zq_L, ↓zq_M, ↓zq_N, ↓zq_O, ↓zq_P, ↓zq_Q, ↓zq_R, zq_S, zq_T, zq_U, zq_V, zq_W, zq_X, zq_Y, zq_Z, zq_0, zq_1, zq_2, zq_3, zq_4, zq_5, ↓zq_6, ↓zq_7, ↓zq_8, ↓zq_9, ↓zq_aa, zq_ab, zq_ac, zq_ad, zq_ae, zq_af, zq_ag, ↓zq_ah, ↓zq_ai, ↓zq_aj, zq_ak, ↓zq_al, ↓zq_am, e_b1, e_b2, x_o1, x_o2, r_F9, r_F10, r_F13, r_F14, r_F15, r_F16, r_F17, r_F18, r_F20, r_F21, r_F22, r_F23, r_F24, r_F27, r_F28, r_F29, r_F30, r_F33, r_F34, r_F35, r_P9, r_P10, r_P13, r_P14, r_P15, r_P16, r_P17, r_P18, r_P20, r_P21, r_P22, r_P23, r_P24, r_P27, r_P28, r_P29, r_P30, r_P33, r_P34, r_P35, r_O0, r_O1, r_O2, r_O3, r_O4, r_O5, r_O6, r_O7, r_O8, r_O11, r_O12, r_O19, r_O25, r_O26, r_O31, r_O32, r_O36, r_O37, r_O38, r_O39, kv, c1, c2, c2_n, k]
theorem r_seek_loop {p n : Int} (hp : 0 ≤ p ∧ p < 40) {g : Int → Int} (h3 : g (28 * p) = 3) : ∀ (m : Nat) (x4 : Int) (M : EM), r_J M → r_G M = g → 0 ≤ M 192 27 → (n - x4).toNat ≤ m → 0 ≤ x4 → x4 ≤ 1000 → n ≤ 1000 → ∃ r M', E_V 216 104 [192, p, n, 28 * p + 4, x4] M = some (r, M') ∧ r_J M' ∧ a_fr (r_wBx ++ r_wq) M M' := by
  have w1 : e_w (28 * p + 4 + 1) = 28 * p + 4 + 1 := a_w_id (by omega) (by omega)
  have w2 : e_w (28 * p + 4 + 2) = 28 * p + 4 + 2 := a_w_id (by omega) (by omega)
  have w3 : e_w (28 * p + 4 + 3) = 28 * p + 4 + 3 := a_w_id (by omega) (by omega)
  have w4 : e_w (28 * p + 4 + 4) = 28 * p + 4 + 4 := a_w_id (by omega) (by omega)
  have hend : ∀ x4 M, r_J M → r_G M = g → 0 ≤ M 192 27 → ¬ (x4 < n) → ∃ r M', E_V 216 104 [192, p, n, 28 * p + 4, x4] M = some (r, M') ∧ r_J M' ∧ a_fr (r_wBx ++ r_wq) M M' := by
    intro x4 M hJ hg hu q
    have hk : r_G M (28 * p) = 3 := by rw [hg]; exact h3
    have s0 := fun v M => r_stw (i := 28 * p + 4) (v := v) (M := M) (by omega) (by omega)
    have s2 := fun v M => r_stw (i := 28 * p + 4 + 2) (v := v) (M := M) (by omega) (by omega)
    have s3 := fun v M => r_stw (i := 28 * p + 4 + 3) (v := v) (M := M) (by omega) (by omega)
    have s4 := fun v M => r_stw (i := 28 * p + 4 + 4) (v := v) (M := M) (by omega) (by omega)
    have hr : ∀ k, -2147483648 ≤ M 192 k ∧ M 192 k ≤ 2147483647 := fun k => c_M32 hJ.1 (by decide) (by decide +kernel)
    have e2 : 28 * p + 4 + 2 = 28 * p + 6 := by omega
    have e3 : 28 * p + 4 + 3 = 28 * p + 7 := by omega
    have e4 : 28 * p + 4 + 4 = 28 * p + 8 := by omega
    obtain ⟨a1, a2, a3⟩ := r_J_box (j := 4) (v := M 192 27) hJ hp hk (by decide) (hr 27) (fun _ => hu)
    obtain ⟨b1, b2, b3⟩ := r_J_box (j := 6) (v := M 192 28) a1 hp a3 (by decide) (hr 28) (fun h => absurd h (by decide))
    obtain ⟨c1, c2, c3⟩ := r_J_box (j := 7) (v := 1) b1 hp b3 (by decide) (by decide) (fun h => absurd h (by decide))
    obtain ⟨d1, d2, d3⟩ := r_J_box (j := 8) (v := M 192 29) c1 hp c3 (by decide) (hr 29) (fun h => absurd h (by decide))
    rw [← e2] at b1 b2 c1 c2 d1 d2
    rw [← e3] at c1 c2 d1 d2
    rw [← e4] at d1 d2
    have n193 : ∀ (M : EM) (i v : Int) (k : Nat), (e_up M 193 i.toNat v) 192 k = M 192 k := fun M i v k => r_n193 (by decide)
    refine ⟨M 192 27, _, ?_, d1, a_fr_tr a2 (a_fr_tr b2 (a_fr_tr c2 d2))⟩
    rw [E_V_eq]
    show e_tv E_C (E_V 216) e_t216_104 [192, p, n, 28 * p + 4, x4] M = _
    unfold e_t216_104
    simp [zq_a, zq_b, zq_c, zq_d, zq_e, zq_f, zq_g, zq_h, zq_i, zq_j, zq_k, zq_l, zq_m, zq_n, zq_o, zq_p, zq_q, zq_r, zq_s, zq_t, zq_u, zq_v, zq_w, zq_x, zq_y, zq_z, zq_A, zq_B, zq_C, zq_D, zq_E, zq_F, zq_G, zq_H, zq_I, zq_J, zq_K, zq_L, ↓zq_M, ↓zq_N, ↓zq_O, ↓zq_P, ↓zq_Q, ↓zq_R, zq_S, zq_T, zq_U, zq_V, zq_W, zq_X, zq_Y, zq_Z, zq_0, zq_1, zq_2, zq_3, zq_4, zq_5, ↓zq_6, ↓zq_7, ↓zq_8, ↓zq_9, ↓zq_aa, zq_ab, zq_ac, zq_ad, zq_ae, zq_af, zq_ag, ↓zq_ah, ↓zq_ai, ↓zq_aj, zq_ak, ↓zq_al, ↓zq_am, e_b1, e_b2, x_o1, x_o2, r_F9, r_F10, r_F13, r_F14, r_F15, r_F16, r_F17, r_F18, r_F20, r_F21, r_F22, r_F23, r_F24, r_F27, r_F28, r_F29, r_F30, r_F33, r_F34, r_F35, r_P9, r_P10, r_P13, r_P14, r_P15, r_P16, r_P17, r_P18, r_P20, r_P21, r_P22, r_P23, r_P24, r_P27, r_P28, r_P29, r_P30, r_P33, r_P34, r_P35, r_O0, r_O1, r_O2, r_O3, r_O4, r_O5, r_O6, r_O7, r_O8, r_O11, r_O12, r_O19, r_O25, r_O26, r_O31, r_O32, r_O36, r_O37, r_O38, r_O39, q, w2, w3, w4, s0, s2, s3, s4, n193]
  intro m
  induction m with
  | zero => intro x4 M hJ hg hu hm h0 h1 h2; exact hend x4 M hJ hg hu (by omega)
  | succ m ih =>
    intro x4 M hJ hg hu hm h0 h1 h2
    rcases x_lt x4 n with ⟨q, q_n⟩ | ⟨q, q_n⟩
    · have w5 : e_w (x4 + 1) = x4 + 1 := a_w_id (by omega) (by omega)
      have l1 : e_op 60 [193, 28 * p + 4 + 1] M = some (r_G M (28 * p + 4 + 1)) := r_rd (by omega) (by omega)
      obtain ⟨M1, k1, t1, t2, t3⟩ := r_step (b := r_G M (28 * p + 4 + 1)) hJ hu
      obtain ⟨r, M', k, u1, u2⟩ := ih (x4 + 1) M1 t1 ((r_q_G t2).trans hg) t3 (by omega) (by omega) (by omega) h2
      refine ⟨r, M', ?_, u1, a_fr_tr (c_sub_r t2) u2⟩
      rw [E_V_eq]
      show e_tv E_C (E_V 216) e_t216_104 [192, p, n, 28 * p + 4, x4] M = _
      unfold e_t216_104
      simp [zq_a, zq_b, zq_c, zq_d, zq_e, zq_f, zq_g, zq_h, zq_i, zq_j, zq_k, zq_l, zq_m, zq_n, zq_o, zq_p, zq_q, zq_r, zq_s, zq_t, zq_u, zq_v, zq_w, zq_x, zq_y, zq_z, zq_A, zq_B, zq_C, zq_D, zq_E, zq_F, zq_G, zq_H, zq_I, zq_J, zq_K, zq_L, ↓zq_M, ↓zq_N, ↓zq_O, ↓zq_P, ↓zq_Q, ↓zq_R, zq_S, zq_T, zq_U, zq_V, zq_W, zq_X, zq_Y, zq_Z, zq_0, zq_1, zq_2, zq_3, zq_4, zq_5, ↓zq_6, ↓zq_7, ↓zq_8, ↓zq_9, ↓zq_aa, zq_ab, zq_ac, zq_ad, zq_ae, zq_af, zq_ag, ↓zq_ah, ↓zq_ai, ↓zq_aj, zq_ak, ↓zq_al, ↓zq_am, e_b1, e_b2, x_o1, x_o2, r_O0, q, q_n, w1, w5, l1, k1, k]
    · exact hend x4 M hJ hg hu q
theorem r_seek {p n : Int} {M : EM} (hJ : r_J M) : r_T r_wBx 216 [192, p, n] M := by
  have hE := r_J_E hJ
  have hW := hE.2.1
  by_cases q0 : 0 ≤ p ∧ p < r_G M 1198
  · have ip := r_ip1 hW q0
    have h40 := r_40 hW q0
    have kk : E_C 170 [192, p] M = some (r_G M (28 * p), M) := r_kind h40
    by_cases q1 : 1 ≤ n ∧ n ≤ 100
    · have i1 := r_in1 (M := M) q1
      by_cases q2 : r_G M (28 * p) = 3
      · have hu : 0 ≤ r_G M (28 * p + 4) := by
          rcases r_pt_of hW q0 with h | h | h | h
          · have := h.2.2.1; omega
          · have := h.2.2.1; omega
          · have := h.2.2.1; omega
          · exact h.2.2.2.1.2
        have w1 : e_w (28 * p) = 28 * p := a_w_id (by omega) (by omega)
        have w2 : e_w (28 * p + 4) = 28 * p + 4 := a_w_id (by omega) (by omega)
        have w3 : e_w (28 * p + 4 + 2) = 28 * p + 4 + 2 := a_w_id (by omega) (by omega)
        have w4 : e_w (28 * p + 4 + 3) = 28 * p + 4 + 3 := a_w_id (by omega) (by omega)
        have w5 : e_w (28 * p + 4 + 4) = 28 * p + 4 + 4 := a_w_id (by omega) (by omega)
        obtain ⟨M1, k1, e1⟩ := r_gives hE hW.2.1 (r_pt_of hW q0)
        have J1 := r_ev_J hJ e1
        have hg1 := r_ev_G e1
        have gf : ∀ (M : EM) (k : Nat) (v : Int), r_G (e_up M 192 k v) = r_G M := fun M k v => r_up_Gne (by decide)
        have l0 := fun M => r_rd (i := 28 * p + 4) (M := M) (by omega) (by omega)
        have l2 := fun M => r_rd (i := 28 * p + 4 + 2) (M := M) (by omega) (by omega)
        have l3 := fun M => r_rd (i := 28 * p + 4 + 3) (M := M) (by omega) (by omega)
        have l4 := fun M => r_rd (i := 28 * p + 4 + 4) (M := M) (by omega) (by omega)
        obtain ⟨b, hb⟩ : ∃ b : Int, b = if r_G M (28 * p + 4 + 3) = 1 then 1 else 0 := ⟨_, rfl⟩
        have hb1 : -2147483648 ≤ b ∧ b ≤ 2147483647 := by
          rw [hb]
          by_cases c : r_G M (28 * p + 4 + 3) = 1
          · rw [if_pos c]; decide
          · rw [if_neg c]; decide
        obtain ⟨u1, v1⟩ := r_qfld (k := 27) (v := r_G M (28 * p + 4)) (by decide) (by decide) (r_gr hJ.1 _) J1
        obtain ⟨u2, v2⟩ := r_qfld (k := 28) (v := r_G M (28 * p + 4 + 2)) (by decide) (by decide) (r_gr hJ.1 _) u1
        obtain ⟨u3, v3⟩ := r_qfld (k := 30) (v := b) (by decide) (by decide) hb1 u2
        obtain ⟨u4, v4⟩ := r_qfld (k := 29) (v := r_G M (28 * p + 4 + 4)) (by decide) (by decide) (r_gr hJ.1 _) u3
        have hf := a_fr_tr (r_evq e1) (a_fr_tr v1 (a_fr_tr v2 (a_fr_tr v3 v4)))
        obtain ⟨r, M', k, t1, t2⟩ := r_seek_loop (n := n) h40 (g := r_G M) q2 _ 0 _ u4 ((r_q_G hf).trans rfl) (by rw [r_ff (by decide), r_ff (by decide), r_ff (by decide), c_up_s]; exact hu) (Nat.le_refl _) (by decide) (by decide) (by omega)
        refine ⟨r, M', ?_, t1, a_fr_tr (c_sub_r hf) t2⟩
        rw [r_ent (show e_rok 216 [192, p, n] = true from decide_eq_true r_ref)]
        show e_tv E_C (E_V 216) e_t216_0 [192, p, n, 0, 0] M = _
        unfold e_t216_0
        by_cases c : r_G M (28 * p + 4 + 3) = 1
        · rw [if_pos c] at hb
          subst hb
          simp [zq_a, zq_b, zq_c, zq_d, zq_e, zq_f, zq_g, zq_h, zq_i, zq_j, zq_k, zq_l, zq_m, zq_n, zq_o, zq_p, zq_q, zq_r, zq_s, zq_t, zq_u, zq_v, zq_w, zq_x, zq_y, zq_z, zq_A, zq_B, zq_C, zq_D, zq_E, zq_F, zq_G, zq_H, zq_I, zq_J, zq_K, zq_L, ↓zq_M, ↓zq_N, ↓zq_O, ↓zq_P, ↓zq_Q, ↓zq_R, zq_S, zq_T, zq_U, zq_V, zq_W, zq_X, zq_Y, zq_Z, zq_0, zq_1, zq_2, zq_3, zq_4, zq_5, ↓zq_6, ↓zq_7, ↓zq_8, ↓zq_9, ↓zq_aa, zq_ab, zq_ac, zq_ad, zq_ae, zq_af, zq_ag, ↓zq_ah, ↓zq_ai, ↓zq_aj, zq_ak, ↓zq_al, ↓zq_am, e_b1, e_b2, x_o1, x_o2, r_F9, r_F10, r_F13, r_F14, r_F15, r_F16, r_F17, r_F18, r_F20, r_F21, r_F22, r_F23, r_F24, r_F27, r_F28, r_F29, r_F30, r_F33, r_F34, r_F35, r_P9, r_P10, r_P13, r_P14, r_P15, r_P16, r_P17, r_P18, r_P20, r_P21, r_P22, r_P23, r_P24, r_P27, r_P28, r_P29, r_P30, r_P33, r_P34, r_P35, r_O0, r_O1, r_O2, r_O3, r_O4, r_O5, r_O6, r_O7, r_O8, r_O11, r_O12, r_O19, r_O25, r_O26, r_O31, r_O32, r_O36, r_O37, r_O38, r_O39, ip, i1, kk, q2, w1, w2, w3, w4, w5, k1, l0, l2, l3, l4, gf, hg1, c, k]
        · rw [if_neg c] at hb
          subst hb
          simp [zq_a, zq_b, zq_c, zq_d, zq_e, zq_f, zq_g, zq_h, zq_i, zq_j, zq_k, zq_l, zq_m, zq_n, zq_o, zq_p, zq_q, zq_r, zq_s, zq_t, zq_u, zq_v, zq_w, zq_x, zq_y, zq_z, zq_A, zq_B, zq_C, zq_D, zq_E, zq_F, zq_G, zq_H, zq_I, zq_J, zq_K, zq_L, ↓zq_M, ↓zq_N, ↓zq_O, ↓zq_P, ↓zq_Q, ↓zq_R, zq_S, zq_T, zq_U, zq_V, zq_W, zq_X, zq_Y, zq_Z, zq_0, zq_1, zq_2, zq_3, zq_4, zq_5, ↓zq_6, ↓zq_7, ↓zq_8, ↓zq_9, ↓zq_aa, zq_ab, zq_ac, zq_ad, zq_ae, zq_af, zq_ag, ↓zq_ah, ↓zq_ai, ↓zq_aj, zq_ak, ↓zq_al, ↓zq_am, e_b1, e_b2, x_o1, x_o2, r_F9, r_F10, r_F13, r_F14, r_F15, r_F16, r_F17, r_F18, r_F20, r_F21, r_F22, r_F23, r_F24, r_F27, r_F28, r_F29, r_F30, r_F33, r_F34, r_F35, r_P9, r_P10, r_P13, r_P14, r_P15, r_P16, r_P17, r_P18, r_P20, r_P21, r_P22, r_P23, r_P24, r_P27, r_P28, r_P29, r_P30, r_P33, r_P34, r_P35, r_O0, r_O1, r_O2, r_O3, r_O4, r_O5, r_O6, r_O7, r_O8, r_O11, r_O12, r_O19, r_O25, r_O26, r_O31, r_O32, r_O36, r_O37, r_O38, r_O39, ip, i1, kk, q2, w1, w2, w3, w4, w5, k1, l0, l2, l3, l4, gf, hg1, c, k]
      · refine r_Ts (r := -3) hJ ?_
        rw [r_ent (show e_rok 216 [192, p, n] = true from decide_eq_true r_ref)]
        show e_tv E_C (E_V 216) e_t216_0 [192, p, n, 0, 0] M = _
        unfold e_t216_0
        simp [zq_a, zq_b, zq_c, zq_d, zq_e, zq_f, zq_g, zq_h, zq_i, zq_j, zq_k, zq_l, zq_m, zq_n, zq_o, zq_p, zq_q, zq_r, zq_s, zq_t, zq_u, zq_v, zq_w, zq_x, zq_y, zq_z, zq_A, zq_B, zq_C, zq_D, zq_E, zq_F, zq_G, zq_H, zq_I, zq_J, zq_K, zq_L, ↓zq_M, ↓zq_N, ↓zq_O, ↓zq_P, ↓zq_Q, ↓zq_R, zq_S, zq_T, zq_U, zq_V, zq_W, zq_X, zq_Y, zq_Z, zq_0, zq_1, zq_2, zq_3, zq_4, zq_5, ↓zq_6, ↓zq_7, ↓zq_8, ↓zq_9, ↓zq_aa, zq_ab, zq_ac, zq_ad, zq_ae, zq_af, zq_ag, ↓zq_ah, ↓zq_ai, ↓zq_aj, zq_ak, ↓zq_al, ↓zq_am, e_b1, e_b2, x_o1, x_o2, ip, i1, kk, q2]
    · have i1 := r_in0 (M := M) q1
      refine r_Ts (r := -1) hJ ?_
      rw [r_ent (show e_rok 216 [192, p, n] = true from decide_eq_true r_ref)]
      show e_tv E_C (E_V 216) e_t216_0 [192, p, n, 0, 0] M = _
      unfold e_t216_0
      simp [zq_a, zq_b, zq_c, zq_d, zq_e, zq_f, zq_g, zq_h, zq_i, zq_j, zq_k, zq_l, zq_m, zq_n, zq_o, zq_p, zq_q, zq_r, zq_s, zq_t, zq_u, zq_v, zq_w, zq_x, zq_y, zq_z, zq_A, zq_B, zq_C, zq_D, zq_E, zq_F, zq_G, zq_H, zq_I, zq_J, zq_K, zq_L, ↓zq_M, ↓zq_N, ↓zq_O, ↓zq_P, ↓zq_Q, ↓zq_R, zq_S, zq_T, zq_U, zq_V, zq_W, zq_X, zq_Y, zq_Z, zq_0, zq_1, zq_2, zq_3, zq_4, zq_5, ↓zq_6, ↓zq_7, ↓zq_8, ↓zq_9, ↓zq_aa, zq_ab, zq_ac, zq_ad, zq_ae, zq_af, zq_ag, ↓zq_ah, ↓zq_ai, ↓zq_aj, zq_ak, ↓zq_al, ↓zq_am, e_b1, e_b2, x_o1, x_o2, ip, i1]
  · have ip := r_ip0 hW q0
    refine r_Ts (r := -1) hJ ?_
    rw [r_ent (show e_rok 216 [192, p, n] = true from decide_eq_true r_ref)]
    show e_tv E_C (E_V 216) e_t216_0 [192, p, n, 0, 0] M = _
    unfold e_t216_0
    simp [zq_a, zq_b, zq_c, zq_d, zq_e, zq_f, zq_g, zq_h, zq_i, zq_j, zq_k, zq_l, zq_m, zq_n, zq_o, zq_p, zq_q, zq_r, zq_s, zq_t, zq_u, zq_v, zq_w, zq_x, zq_y, zq_z, zq_A, zq_B, zq_C, zq_D, zq_E, zq_F, zq_G, zq_H, zq_I, zq_J, zq_K, zq_L, ↓zq_M, ↓zq_N, ↓zq_O, ↓zq_P, ↓zq_Q, ↓zq_R, zq_S, zq_T, zq_U, zq_V, zq_W, zq_X, zq_Y, zq_Z, zq_0, zq_1, zq_2, zq_3, zq_4, zq_5, ↓zq_6, ↓zq_7, ↓zq_8, ↓zq_9, ↓zq_aa, zq_ab, zq_ac, zq_ad, zq_ae, zq_af, zq_ag, ↓zq_ah, ↓zq_ai, ↓zq_aj, zq_ak, ↓zq_al, ↓zq_am, e_b1, e_b2, x_o1, x_o2, ip]
theorem r_led_loop {p u n x4 x5 : Int} (hn : n ≤ 1000) : ∀ (m : Nat) (x6 : Int) (M : EM), r_J M → 0 ≤ M 192 27 → (n + 1 - x6).toNat ≤ m → 0 ≤ x6 → x6 ≤ 1001 → ∃ r M', E_V 217 88 [192, p, u, n, x4, x5, x6] M = some (r, M') ∧ r_J M' ∧ a_fr r_wq M M' := by
  have hend : ∀ x6 M, r_J M → ¬ (x6 ≤ n) → ∃ r M', E_V 217 88 [192, p, u, n, x4, x5, x6] M = some (r, M') ∧ r_J M' ∧ a_fr r_wq M M' := by
    intro x6 M hJ q
    refine ⟨-4, M, ?_, hJ, a_fr_rf⟩
    rw [E_V_eq]
    show e_tv E_C (E_V 217) e_t217_88 [192, p, u, n, x4, x5, x6] M = _
    unfold e_t217_88
    simp [zq_a, zq_b, zq_c, zq_d, zq_e, zq_f, zq_g, zq_h, zq_i, zq_j, zq_k, zq_l, zq_m, zq_n, zq_o, zq_p, zq_q, zq_r, zq_s, zq_t, zq_u, zq_v, zq_w, zq_x, zq_y, zq_z, zq_A, zq_B, zq_C, zq_D, zq_E, zq_F, zq_G, zq_H, zq_I, zq_J, zq_K, zq_L, ↓zq_M, ↓zq_N, ↓zq_O, ↓zq_P, ↓zq_Q, ↓zq_R, zq_S, zq_T, zq_U, zq_V, zq_W, zq_X, zq_Y, zq_Z, zq_0, zq_1, zq_2, zq_3, zq_4, zq_5, ↓zq_6, ↓zq_7, ↓zq_8, ↓zq_9, ↓zq_aa, zq_ab, zq_ac, zq_ad, zq_ae, zq_af, zq_ag, ↓zq_ah, ↓zq_ai, ↓zq_aj, zq_ak, ↓zq_al, ↓zq_am, e_b1, e_b2, x_o1, x_o2, q]
  intro m
  induction m with
  | zero => intro x6 M hJ hu hm h0 h1; exact hend x6 M hJ (by omega)
  | succ m ih =>
    intro x6 M hJ hu hm h0 h1
    rcases x_le x6 n with ⟨q, q_n⟩ | ⟨q, q_n⟩
    · have w5 : e_w (x6 + 1) = x6 + 1 := a_w_id (by omega) (by omega)
      obtain ⟨M1, k1, t1, t2, t3⟩ := r_step (b := x4) hJ hu
      obtain ⟨r, M', k, u1, u2⟩ := ih (x6 + 1) M1 t1 t3 (by omega) (by omega) (by omega)
      rcases x_le (e_w (M 192 27 - x5)) x4 with ⟨c1, c1_n⟩ | ⟨c1, c1_n⟩
      · rcases x_le (e_w (x5 - M 192 27)) x4 with ⟨c2, c2_n⟩ | ⟨c2, c2_n⟩
        · refine ⟨x6, M, ?_, hJ, a_fr_rf⟩
          rw [E_V_eq]
          show e_tv E_C (E_V 217) e_t217_88 [192, p, u, n, x4, x5, x6] M = _
          unfold e_t217_88
          simp [zq_a, zq_b, zq_c, zq_d, zq_e, zq_f, zq_g, zq_h, zq_i, zq_j, zq_k, zq_l, zq_m, zq_n, zq_o, zq_p, zq_q, zq_r, zq_s, zq_t, zq_u, zq_v, zq_w, zq_x, zq_y, zq_z, zq_A, zq_B, zq_C, zq_D, zq_E, zq_F, zq_G, zq_H, zq_I, zq_J, zq_K, zq_L, ↓zq_M, ↓zq_N, ↓zq_O, ↓zq_P, ↓zq_Q, ↓zq_R, zq_S, zq_T, zq_U, zq_V, zq_W, zq_X, zq_Y, zq_Z, zq_0, zq_1, zq_2, zq_3, zq_4, zq_5, ↓zq_6, ↓zq_7, ↓zq_8, ↓zq_9, ↓zq_aa, zq_ab, zq_ac, zq_ad, zq_ae, zq_af, zq_ag, ↓zq_ah, ↓zq_ai, ↓zq_aj, zq_ak, ↓zq_al, ↓zq_am, e_b1, e_b2, x_o1, x_o2, r_F9, r_F10, r_F13, r_F14, r_F15, r_F16, r_F17, r_F18, r_F20, r_F21, r_F22, r_F23, r_F24, r_F27, r_F28, r_F29, r_F30, r_F33, r_F34, r_F35, r_P9, r_P10, r_P13, r_P14, r_P15, r_P16, r_P17, r_P18, r_P20, r_P21, r_P22, r_P23, r_P24, r_P27, r_P28, r_P29, r_P30, r_P33, r_P34, r_P35, r_O0, r_O1, r_O2, r_O3, r_O4, r_O5, r_O6, r_O7, r_O8, r_O11, r_O12, r_O19, r_O25, r_O26, r_O31, r_O32, r_O36, r_O37, r_O38, r_O39, q, q_n, c1, c1_n, c2, c2_n]
        · refine ⟨r, M', ?_, u1, a_fr_tr t2 u2⟩
          rw [E_V_eq]
          show e_tv E_C (E_V 217) e_t217_88 [192, p, u, n, x4, x5, x6] M = _
          unfold e_t217_88
          simp [zq_a, zq_b, zq_c, zq_d, zq_e, zq_f, zq_g, zq_h, zq_i, zq_j, zq_k, zq_l, zq_m, zq_n, zq_o, zq_p, zq_q, zq_r, zq_s, zq_t, zq_u, zq_v, zq_w, zq_x, zq_y, zq_z, zq_A, zq_B, zq_C, zq_D, zq_E, zq_F, zq_G, zq_H, zq_I, zq_J, zq_K, zq_L, ↓zq_M, ↓zq_N, ↓zq_O, ↓zq_P, ↓zq_Q, ↓zq_R, zq_S, zq_T, zq_U, zq_V, zq_W, zq_X, zq_Y, zq_Z, zq_0, zq_1, zq_2, zq_3, zq_4, zq_5, ↓zq_6, ↓zq_7, ↓zq_8, ↓zq_9, ↓zq_aa, zq_ab, zq_ac, zq_ad, zq_ae, zq_af, zq_ag, ↓zq_ah, ↓zq_ai, ↓zq_aj, zq_ak, ↓zq_al, ↓zq_am, e_b1, e_b2, x_o1, x_o2, r_F9, r_F10, r_F13, r_F14, r_F15, r_F16, r_F17, r_F18, r_F20, r_F21, r_F22, r_F23, r_F24, r_F27, r_F28, r_F29, r_F30, r_F33, r_F34, r_F35, r_P9, r_P10, r_P13, r_P14, r_P15, r_P16, r_P17, r_P18, r_P20, r_P21, r_P22, r_P23, r_P24, r_P27, r_P28, r_P29, r_P30, r_P33, r_P34, r_P35, r_O0, r_O1, r_O2, r_O3, r_O4, r_O5, r_O6, r_O7, r_O8, r_O11, r_O12, r_O19, r_O25, r_O26, r_O31, r_O32, r_O36, r_O37, r_O38, r_O39, q, q_n, c1, c1_n, c2, c2_n, k1, w5, k]
      · refine ⟨r, M', ?_, u1, a_fr_tr t2 u2⟩
        rw [E_V_eq]
        show e_tv E_C (E_V 217) e_t217_88 [192, p, u, n, x4, x5, x6] M = _
        unfold e_t217_88
        simp [zq_a, zq_b, zq_c, zq_d, zq_e, zq_f, zq_g, zq_h, zq_i, zq_j, zq_k, zq_l, zq_m, zq_n, zq_o, zq_p, zq_q, zq_r, zq_s, zq_t, zq_u, zq_v, zq_w, zq_x, zq_y, zq_z, zq_A, zq_B, zq_C, zq_D, zq_E, zq_F, zq_G, zq_H, zq_I, zq_J, zq_K, zq_L, ↓zq_M, ↓zq_N, ↓zq_O, ↓zq_P, ↓zq_Q, ↓zq_R, zq_S, zq_T, zq_U, zq_V, zq_W, zq_X, zq_Y, zq_Z, zq_0, zq_1, zq_2, zq_3, zq_4, zq_5, ↓zq_6, ↓zq_7, ↓zq_8, ↓zq_9, ↓zq_aa, zq_ab, zq_ac, zq_ad, zq_ae, zq_af, zq_ag, ↓zq_ah, ↓zq_ai, ↓zq_aj, zq_ak, ↓zq_al, ↓zq_am, e_b1, e_b2, x_o1, x_o2, r_F9, r_F10, r_F13, r_F14, r_F15, r_F16, r_F17, r_F18, r_F20, r_F21, r_F22, r_F23, r_F24, r_F27, r_F28, r_F29, r_F30, r_F33, r_F34, r_F35, r_P9, r_P10, r_P13, r_P14, r_P15, r_P16, r_P17, r_P18, r_P20, r_P21, r_P22, r_P23, r_P24, r_P27, r_P28, r_P29, r_P30, r_P33, r_P34, r_P35, r_O0, r_O1, r_O2, r_O3, r_O4, r_O5, r_O6, r_O7, r_O8, r_O11, r_O12, r_O19, r_O25, r_O26, r_O31, r_O32, r_O36, r_O37, r_O38, r_O39, q, q_n, c1, c1_n, k1, w5, k]
    · exact hend x6 M hJ q
theorem r_led {p u n : Int} {M : EM} (hJ : r_J M) : r_Q 217 [192, p, u, n] M := by
  have hE := r_J_E hJ
  have hW := hE.2.1
  by_cases q0 : 0 ≤ p ∧ p < r_G M 1198
  · have ip := r_ip1 hW q0
    have h40 := r_40 hW q0
    have kk : E_C 170 [192, p] M = some (r_G M (28 * p), M) := r_kind h40
    by_cases q1 : 0 ≤ u ∧ u ≤ 500
    · have i1 := r_in1 (M := M) q1
      by_cases q2 : 0 ≤ n ∧ n ≤ 200
      · have i2 := r_in1 (M := M) q2
        by_cases q3 : r_G M (28 * p) = 3
        · have w1 : e_w (28 * p) = 28 * p := a_w_id (by omega) (by omega)
          have w2 : e_w (28 * p + 5) = 28 * p + 5 := a_w_id (by omega) (by omega)
          obtain ⟨M1, k1, e1⟩ := r_gives hE hW.2.1 (r_pt_of hW q0)
          have J1 := r_ev_J hJ e1
          have l0 := r_rd (i := 28 * p + 5) (M := M1) (by omega) (by omega)
          obtain ⟨b, kb, hb⟩ := r_bestOf J1.1
          obtain ⟨u1, v1⟩ := r_qfld (k := 27) (v := u) (by decide) (by decide) ⟨by omega, by omega⟩ J1
          obtain ⟨u2, v2⟩ := r_qfld (k := 28) (v := 1) (by decide) (by decide) (by decide) u1
          obtain ⟨u3, v3⟩ := r_qfld (k := 30) (v := 0) (by decide) (by decide) (by decide) u2
          obtain ⟨r, M', k, t1, t2⟩ := r_led_loop (p := p) (u := u) (n := n) (x4 := r_G M1 (28 * p + 5)) (x5 := b) (by omega) _ 0 _ u3 (by rw [r_ff (by decide), r_ff (by decide), c_up_s]; exact q1.1) (Nat.le_refl _) (by decide) (by decide)
          refine ⟨r, M', ?_, t1.1, a_fr_tr (r_evq e1) (a_fr_tr v1 (a_fr_tr v2 (a_fr_tr v3 t2))), t1.2.2.2.2⟩
          rw [r_ent (show e_rok 217 [192, p, u, n] = true from decide_eq_true r_ref)]
          show e_tv E_C (E_V 217) e_t217_0 [192, p, u, n, 0, 0, 0] M = _
          unfold e_t217_0
          simp [zq_a, zq_b, zq_c, zq_d, zq_e, zq_f, zq_g, zq_h, zq_i, zq_j, zq_k, zq_l, zq_m, zq_n, zq_o, zq_p, zq_q, zq_r, zq_s, zq_t, zq_u, zq_v, zq_w, zq_x, zq_y, zq_z, zq_A, zq_B, zq_C, zq_D, zq_E, zq_F, zq_G, zq_H, zq_I, zq_J, zq_K, zq_L, ↓zq_M, ↓zq_N, ↓zq_O, ↓zq_P, ↓zq_Q, ↓zq_R, zq_S, zq_T, zq_U, zq_V, zq_W, zq_X, zq_Y, zq_Z, zq_0, zq_1, zq_2, zq_3, zq_4, zq_5, ↓zq_6, ↓zq_7, ↓zq_8, ↓zq_9, ↓zq_aa, zq_ab, zq_ac, zq_ad, zq_ae, zq_af, zq_ag, ↓zq_ah, ↓zq_ai, ↓zq_aj, zq_ak, ↓zq_al, ↓zq_am, e_b1, e_b2, x_o1, x_o2, r_F9, r_F10, r_F13, r_F14, r_F15, r_F16, r_F17, r_F18, r_F20, r_F21, r_F22, r_F23, r_F24, r_F27, r_F28, r_F29, r_F30, r_F33, r_F34, r_F35, r_P9, r_P10, r_P13, r_P14, r_P15, r_P16, r_P17, r_P18, r_P20, r_P21, r_P22, r_P23, r_P24, r_P27, r_P28, r_P29, r_P30, r_P33, r_P34, r_P35, r_O0, r_O1, r_O2, r_O3, r_O4, r_O5, r_O6, r_O7, r_O8, r_O11, r_O12, r_O19, r_O25, r_O26, r_O31, r_O32, r_O36, r_O37, r_O38, r_O39, ip, i1, i2, kk, q3, w1, w2, k1, l0, kb, k]
        · refine r_same (r := -3) hJ ?_
          rw [r_ent (show e_rok 217 [192, p, u, n] = true from decide_eq_true r_ref)]
          show e_tv E_C (E_V 217) e_t217_0 [192, p, u, n, 0, 0, 0] M = _
          unfold e_t217_0
          simp [zq_a, zq_b, zq_c, zq_d, zq_e, zq_f, zq_g, zq_h, zq_i, zq_j, zq_k, zq_l, zq_m, zq_n, zq_o, zq_p, zq_q, zq_r, zq_s, zq_t, zq_u, zq_v, zq_w, zq_x, zq_y, zq_z, zq_A, zq_B, zq_C, zq_D, zq_E, zq_F, zq_G, zq_H, zq_I, zq_J, zq_K, zq_L, ↓zq_M, ↓zq_N, ↓zq_O, ↓zq_P, ↓zq_Q, ↓zq_R, zq_S, zq_T, zq_U, zq_V, zq_W, zq_X, zq_Y, zq_Z, zq_0, zq_1, zq_2, zq_3, zq_4, zq_5, ↓zq_6, ↓zq_7, ↓zq_8, ↓zq_9, ↓zq_aa, zq_ab, zq_ac, zq_ad, zq_ae, zq_af, zq_ag, ↓zq_ah, ↓zq_ai, ↓zq_aj, zq_ak, ↓zq_al, ↓zq_am, e_b1, e_b2, x_o1, x_o2, ip, i1, i2, kk, q3]
      · have i2 := r_in0 (M := M) q2
        refine r_same (r := -1) hJ ?_
        rw [r_ent (show e_rok 217 [192, p, u, n] = true from decide_eq_true r_ref)]
        show e_tv E_C (E_V 217) e_t217_0 [192, p, u, n, 0, 0, 0] M = _
        unfold e_t217_0
        simp [zq_a, zq_b, zq_c, zq_d, zq_e, zq_f, zq_g, zq_h, zq_i, zq_j, zq_k, zq_l, zq_m, zq_n, zq_o, zq_p, zq_q, zq_r, zq_s, zq_t, zq_u, zq_v, zq_w, zq_x, zq_y, zq_z, zq_A, zq_B, zq_C, zq_D, zq_E, zq_F, zq_G, zq_H, zq_I, zq_J, zq_K, zq_L, ↓zq_M, ↓zq_N, ↓zq_O, ↓zq_P, ↓zq_Q, ↓zq_R, zq_S, zq_T, zq_U, zq_V, zq_W, zq_X, zq_Y, zq_Z, zq_0, zq_1, zq_2, zq_3, zq_4, zq_5, ↓zq_6, ↓zq_7, ↓zq_8, ↓zq_9, ↓zq_aa, zq_ab, zq_ac, zq_ad, zq_ae, zq_af, zq_ag, ↓zq_ah, ↓zq_ai, ↓zq_aj, zq_ak, ↓zq_al, ↓zq_am, e_b1, e_b2, x_o1, x_o2, ip, i1, i2]
    · have i1 := r_in0 (M := M) q1
      refine r_same (r := -1) hJ ?_
      rw [r_ent (show e_rok 217 [192, p, u, n] = true from decide_eq_true r_ref)]
      show e_tv E_C (E_V 217) e_t217_0 [192, p, u, n, 0, 0, 0] M = _
      unfold e_t217_0
      simp [zq_a, zq_b, zq_c, zq_d, zq_e, zq_f, zq_g, zq_h, zq_i, zq_j, zq_k, zq_l, zq_m, zq_n, zq_o, zq_p, zq_q, zq_r, zq_s, zq_t, zq_u, zq_v, zq_w, zq_x, zq_y, zq_z, zq_A, zq_B, zq_C, zq_D, zq_E, zq_F, zq_G, zq_H, zq_I, zq_J, zq_K, zq_L, ↓zq_M, ↓zq_N, ↓zq_O, ↓zq_P, ↓zq_Q, ↓zq_R, zq_S, zq_T, zq_U, zq_V, zq_W, zq_X, zq_Y, zq_Z, zq_0, zq_1, zq_2, zq_3, zq_4, zq_5, ↓zq_6, ↓zq_7, ↓zq_8, ↓zq_9, ↓zq_aa, zq_ab, zq_ac, zq_ad, zq_ae, zq_af, zq_ag, ↓zq_ah, ↓zq_ai, ↓zq_aj, zq_ak, ↓zq_al, ↓zq_am, e_b1, e_b2, x_o1, x_o2, ip, i1]
  · have ip := r_ip0 hW q0
    refine r_same (r := -1) hJ ?_
    rw [r_ent (show e_rok 217 [192, p, u, n] = true from decide_eq_true r_ref)]
    show e_tv E_C (E_V 217) e_t217_0 [192, p, u, n, 0, 0, 0] M = _
    unfold e_t217_0
    simp [zq_a, zq_b, zq_c, zq_d, zq_e, zq_f, zq_g, zq_h, zq_i, zq_j, zq_k, zq_l, zq_m, zq_n, zq_o, zq_p, zq_q, zq_r, zq_s, zq_t, zq_u, zq_v, zq_w, zq_x, zq_y, zq_z, zq_A, zq_B, zq_C, zq_D, zq_E, zq_F, zq_G, zq_H, zq_I, zq_J, zq_K, zq_L, ↓zq_M, ↓zq_N, ↓zq_O, ↓zq_P, ↓zq_Q, ↓zq_R, zq_S, zq_T, zq_U, zq_V, zq_W, zq_X, zq_Y, zq_Z, zq_0, zq_1, zq_2, zq_3, zq_4, zq_5, ↓zq_6, ↓zq_7, ↓zq_8, ↓zq_9, ↓zq_aa, zq_ab, zq_ac, zq_ad, zq_ae, zq_af, zq_ag, ↓zq_ah, ↓zq_ai, ↓zq_aj, zq_ak, ↓zq_al, ↓zq_am, e_b1, e_b2, x_o1, x_o2, ip]
