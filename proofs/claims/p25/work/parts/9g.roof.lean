/-! lies, wall, sun, sky, trade, room of the reference -/
theorem r_sq {v : Int} (h : 0 ≤ v ∧ v ≤ 2147483647) {c : Int} (hc : 2 ≤ c) : e_w (v.tdiv c) = v / c ∧ v.tmod c = v % c := by
  have h1 : v.tdiv c = v / c := Int.tdiv_eq_ediv_of_nonneg h.1
  have h2 : v.tmod c = v % c := Int.tmod_eq_emod_of_nonneg h.1
  have h3 := (r_td (z := v) (c := c) ⟨by omega, h.2⟩ hc)
  refine ⟨?_, h2⟩
  rw [h1]
  have h4 : 0 ≤ v / c := Int.ediv_nonneg h.1 (by omega)
  have h5 : v / c ≤ v := Int.ediv_le_self _ h.1
  exact a_w_id (by omega) (by omega)
theorem r_isSquare {v : Int} {M : EM} (hv : v ≤ 2147483647) : E_C 218 [v] M = some (if 0 ≤ v ∧ v / 100 < 20 ∧ v % 100 < 12 then 1 else 0, M) := by
  rcases x_le 0 v with ⟨c0, c0_n⟩ | ⟨c0, c0_n⟩
  · obtain ⟨e1, e2⟩ := r_sq (v := v) (c := 100) ⟨c0, hv⟩ (by decide)
    rcases x_lt (v / 100) 20 with ⟨c1, c1_n⟩ | ⟨c1, c1_n⟩
    · rcases x_lt (v % 100) 12 with ⟨c2, c2_n⟩ | ⟨c2, c2_n⟩
      · rw [if_pos ⟨c0, c1, c2⟩]
        rw [r_ent (show e_rok 218 [v] = true from rfl)]
        show e_tv E_C (E_V 218) e_t218_0 [v] M = _
        unfold e_t218_0
        simp [zq_a, zq_b, zq_c, zq_d, zq_e, zq_f, zq_g, zq_h, zq_i, zq_j, zq_k, zq_l, zq_m, zq_n, zq_o, zq_p, zq_q, zq_r, zq_s, zq_t, zq_u, zq_v, zq_w, zq_x, zq_y, zq_z, zq_A, zq_B, zq_C, zq_D, zq_E, zq_F, zq_G, zq_H, zq_I, zq_J, zq_K, zq_L, ↓zq_M, ↓zq_N, ↓zq_O, ↓zq_P, ↓zq_Q, ↓zq_R, zq_S, zq_T, zq_U, zq_V, zq_W, zq_X, zq_Y, zq_Z, zq_0, zq_1, zq_2, zq_3, zq_4, zq_5, ↓zq_6, ↓zq_7, ↓zq_8, ↓zq_9, ↓zq_aa, zq_ab, zq_ac, zq_ad, zq_ae, zq_af, zq_ag, ↓zq_ah, ↓zq_ai, ↓zq_aj, zq_ak, ↓zq_al, ↓zq_am, e_b1, e_b2, x_o1, x_o2, c0, c0_n, e1, e2, c1, c1_n, c2, c2_n]
      · rw [if_neg (fun h => c2 h.2.2)]
        rw [r_ent (show e_rok 218 [v] = true from rfl)]
        show e_tv E_C (E_V 218) e_t218_0 [v] M = _
        unfold e_t218_0
        simp [zq_a, zq_b, zq_c, zq_d, zq_e, zq_f, zq_g, zq_h, zq_i, zq_j, zq_k, zq_l, zq_m, zq_n, zq_o, zq_p, zq_q, zq_r, zq_s, zq_t, zq_u, zq_v, zq_w, zq_x, zq_y, zq_z, zq_A, zq_B, zq_C, zq_D, zq_E, zq_F, zq_G, zq_H, zq_I, zq_J, zq_K, zq_L, ↓zq_M, ↓zq_N, ↓zq_O, ↓zq_P, ↓zq_Q, ↓zq_R, zq_S, zq_T, zq_U, zq_V, zq_W, zq_X, zq_Y, zq_Z, zq_0, zq_1, zq_2, zq_3, zq_4, zq_5, ↓zq_6, ↓zq_7, ↓zq_8, ↓zq_9, ↓zq_aa, zq_ab, zq_ac, zq_ad, zq_ae, zq_af, zq_ag, ↓zq_ah, ↓zq_ai, ↓zq_aj, zq_ak, ↓zq_al, ↓zq_am, e_b1, e_b2, x_o1, x_o2, c0, c0_n, e1, e2, c1, c1_n, c2, c2_n]
    · rw [if_neg (fun h => c1 h.2.1)]
      rw [r_ent (show e_rok 218 [v] = true from rfl)]
      show e_tv E_C (E_V 218) e_t218_0 [v] M = _
      unfold e_t218_0
      simp [zq_a, zq_b, zq_c, zq_d, zq_e, zq_f, zq_g, zq_h, zq_i, zq_j, zq_k, zq_l, zq_m, zq_n, zq_o, zq_p, zq_q, zq_r, zq_s, zq_t, zq_u, zq_v, zq_w, zq_x, zq_y, zq_z, zq_A, zq_B, zq_C, zq_D, zq_E, zq_F, zq_G, zq_H, zq_I, zq_J, zq_K, zq_L, ↓zq_M, ↓zq_N, ↓zq_O, ↓zq_P, ↓zq_Q, ↓zq_R, zq_S, zq_T, zq_U, zq_V, zq_W, zq_X, zq_Y, zq_Z, zq_0, zq_1, zq_2, zq_3, zq_4, zq_5, ↓zq_6, ↓zq_7, ↓zq_8, ↓zq_9, ↓zq_aa, zq_ab, zq_ac, zq_ad, zq_ae, zq_af, zq_ag, ↓zq_ah, ↓zq_ai, ↓zq_aj, zq_ak, ↓zq_al, ↓zq_am, e_b1, e_b2, x_o1, x_o2, c0, c0_n, e1, c1, c1_n]
  · rw [if_neg (fun h => c0 h.1)]
    rw [r_ent (show e_rok 218 [v] = true from rfl)]
    show e_tv E_C (E_V 218) e_t218_0 [v] M = _
    unfold e_t218_0
    simp [zq_a, zq_b, zq_c, zq_d, zq_e, zq_f, zq_g, zq_h, zq_i, zq_j, zq_k, zq_l, zq_m, zq_n, zq_o, zq_p, zq_q, zq_r, zq_s, zq_t, zq_u, zq_v, zq_w, zq_x, zq_y, zq_z, zq_A, zq_B, zq_C, zq_D, zq_E, zq_F, zq_G, zq_H, zq_I, zq_J, zq_K, zq_L, ↓zq_M, ↓zq_N, ↓zq_O, ↓zq_P, ↓zq_Q, ↓zq_R, zq_S, zq_T, zq_U, zq_V, zq_W, zq_X, zq_Y, zq_Z, zq_0, zq_1, zq_2, zq_3, zq_4, zq_5, ↓zq_6, ↓zq_7, ↓zq_8, ↓zq_9, ↓zq_aa, zq_ab, zq_ac, zq_ad, zq_ae, zq_af, zq_ag, ↓zq_ah, ↓zq_ai, ↓zq_aj, zq_ak, ↓zq_al, ↓zq_am, e_b1, e_b2, x_o1, x_o2, c0, c0_n]
/-- five cells of a CELL's PLACES -/
def r_lay5 (M : EM) (p a b c d : Int) : EM := e_up (e_up (e_up (e_up (e_up M 193 (28 * p + 20).toNat 1) 193 (28 * p + 20 + 1).toNat a) 193 (28 * p + 20 + 2).toNat b) 193 (28 * p + 20 + 3).toNat c) 193 (28 * p + 20 + 4).toNat d
theorem r_lay5_G {M : EM} {p a b c d : Int} (hp : 0 ≤ p ∧ p < 40) : r_G (r_lay5 M p a b c d) (28 * p + 20) = 1 ∧ r_G (r_lay5 M p a b c d) (28 * p + 20 + 1) = a ∧ r_G (r_lay5 M p a b c d) (28 * p + 20 + 2) = b ∧ r_G (r_lay5 M p a b c d) (28 * p + 20 + 3) = c ∧ r_G (r_lay5 M p a b c d) (28 * p + 20 + 4) = d ∧ ∀ i, i < 28 * p + 20 ∨ 28 * p + 24 < i → r_G (r_lay5 M p a b c d) i = r_G M i := by
  unfold r_lay5
  refine ⟨?_, ?_, ?_, ?_, r_G_s, fun i hi => ?_⟩
  · rw [r_G_n (by omega) (by omega), r_G_n (by omega) (by omega), r_G_n (by omega) (by omega), r_G_n (by omega) (by omega), r_G_s]
  · rw [r_G_n (by omega) (by omega), r_G_n (by omega) (by omega), r_G_n (by omega) (by omega), r_G_s]
  · rw [r_G_n (by omega) (by omega), r_G_n (by omega) (by omega), r_G_s]
  · rw [r_G_n (by omega) (by omega), r_G_s]
  · rw [r_G_n (by omega) (by omega), r_G_n (by omega) (by omega), r_G_n (by omega) (by omega), r_G_n (by omega) (by omega), r_G_n (by omega) (by omega)]
theorem r_lay5_J {M : EM} {p a b c d : Int} (hJ : r_J M) (hp : 0 ≤ p ∧ p < 40) (hk : r_G M (28 * p) = 0) (ha : 0 ≤ a ∧ a ≤ c ∧ c ≤ 19) (hb : 0 ≤ b ∧ b ≤ d ∧ d ≤ 11) : r_J (r_lay5 M p a b c d) ∧ a_fr (r_wL ++ r_wq) M (r_lay5 M p a b c d) := by
  obtain ⟨g0, g1, g2, g3, g4, g5⟩ := r_lay5_G (M := M) (a := a) (b := b) (c := c) (d := d) hp
  refine ⟨r_J_row hJ ?_ ?_ ?_, ?_⟩
  · unfold r_lay5
    exact r_upw ⟨by omega, by omega⟩ (r_upw ⟨by omega, by omega⟩ (r_upw ⟨by omega, by omega⟩ (r_upw ⟨by omega, by omega⟩ (r_upw (by decide) hJ.1))))
  · intro id k h
    unfold r_lay5
    rw [r_n193 h, r_n193 h, r_n193 h, r_n193 h, r_n193 h]
  · refine r_W_one (r_J_E hJ).2.1 (fun i hi => g5 i (by omega)) (g5 _ (by omega)) (g5 _ (by omega)) hp (Or.inl ⟨hk, fun _ => Or.inr ?_⟩)
    rw [show 28 * p + 21 = 28 * p + 20 + 1 by omega, show 28 * p + 22 = 28 * p + 20 + 2 by omega, show 28 * p + 23 = 28 * p + 20 + 3 by omega, show 28 * p + 24 = 28 * p + 20 + 4 by omega, g1, g2, g3, g4]
    exact ⟨ha.1, ha.2.1, ha.2.2, hb.1, hb.2.1, hb.2.2⟩
  · unfold r_lay5
    exact a_fr_tr (r_frp (p := p) (lo := 20) (up := 24) ⟨by omega, by omega⟩ ⟨by omega, by omega⟩) (a_fr_tr (r_frp (p := p) (lo := 20) (up := 24) ⟨by omega, by omega⟩ ⟨by omega, by omega⟩) (a_fr_tr (r_frp (p := p) (lo := 20) (up := 24) ⟨by omega, by omega⟩ ⟨by omega, by omega⟩) (a_fr_tr (r_frp (p := p) (lo := 20) (up := 24) ⟨by omega, by omega⟩ ⟨by omega, by omega⟩) (r_frp (p := p) (lo := 20) (up := 24) ⟨by omega, by omega⟩ ⟨by omega, by omega⟩))))
theorem r_liesOf {p f t : Int} {M : EM} (hJ : r_J M) (hf : -2147483648 ≤ f ∧ f ≤ 2147483647) (ht : -2147483648 ≤ t ∧ t ≤ 2147483647) : r_T r_wL 219 [192, p, f, t] M := by
  have hW := (r_J_E hJ).2.1
  by_cases q0 : 0 ≤ p ∧ p < r_G M 1198
  · have ip := r_ip1 hW q0
    have h40 := r_40 hW q0
    have kk : E_C 170 [192, p] M = some (r_G M (28 * p), M) := r_kind h40
    have k1 := r_isSquare (v := f) (M := M) hf.2
    have k2 := r_isSquare (v := t) (M := M) ht.2
    by_cases q1 : 0 ≤ f ∧ f / 100 < 20 ∧ f % 100 < 12
    · rw [if_pos q1] at k1
      obtain ⟨e1, e2⟩ := r_sq (v := f) (c := 100) ⟨q1.1, hf.2⟩ (by decide)
      by_cases q2 : 0 ≤ t ∧ t / 100 < 20 ∧ t % 100 < 12
      · rw [if_pos q2] at k2
        obtain ⟨e3, e4⟩ := r_sq (v := t) (c := 100) ⟨q2.1, ht.2⟩ (by decide)
        rcases x_le (f / 100) (t / 100) with ⟨q3, q3_n⟩ | ⟨q3, q3_n⟩
        · rcases x_lt (t % 100) (f % 100) with ⟨q4, q4_n⟩ | ⟨q4, q4_n⟩
          · refine r_Ts (r := -1) hJ ?_
            rw [r_ent (show e_rok 219 [192, p, f, t] = true from decide_eq_true r_ref)]
            show e_tv E_C (E_V 219) e_t219_0 [192, p, f, t, 0] M = _
            unfold e_t219_0
            simp [zq_a, zq_b, zq_c, zq_d, zq_e, zq_f, zq_g, zq_h, zq_i, zq_j, zq_k, zq_l, zq_m, zq_n, zq_o, zq_p, zq_q, zq_r, zq_s, zq_t, zq_u, zq_v, zq_w, zq_x, zq_y, zq_z, zq_A, zq_B, zq_C, zq_D, zq_E, zq_F, zq_G, zq_H, zq_I, zq_J, zq_K, zq_L, ↓zq_M, ↓zq_N, ↓zq_O, ↓zq_P, ↓zq_Q, ↓zq_R, zq_S, zq_T, zq_U, zq_V, zq_W, zq_X, zq_Y, zq_Z, zq_0, zq_1, zq_2, zq_3, zq_4, zq_5, ↓zq_6, ↓zq_7, ↓zq_8, ↓zq_9, ↓zq_aa, zq_ab, zq_ac, zq_ad, zq_ae, zq_af, zq_ag, ↓zq_ah, ↓zq_ai, ↓zq_aj, zq_ak, ↓zq_al, ↓zq_am, e_b1, e_b2, x_o1, x_o2, ip, k1, k2, e1, e2, e3, e4, q3, q3_n, q4, q4_n]
          · by_cases q5 : r_G M (28 * p) = 0
            · have w1 : e_w (28 * p) = 28 * p := a_w_id (by omega) (by omega)
              have w2 : e_w (28 * p + 20) = 28 * p + 20 := a_w_id (by omega) (by omega)
              have v1 : e_w (28 * p + 20 + 1) = 28 * p + 20 + 1 := a_w_id (by omega) (by omega)
              have v2 : e_w (28 * p + 20 + 2) = 28 * p + 20 + 2 := a_w_id (by omega) (by omega)
              have v3 : e_w (28 * p + 20 + 3) = 28 * p + 20 + 3 := a_w_id (by omega) (by omega)
              have v4 : e_w (28 * p + 20 + 4) = 28 * p + 20 + 4 := a_w_id (by omega) (by omega)
              have s0 := fun v M => r_stw (i := 28 * p + 20) (v := v) (M := M) (by omega) (by omega)
              have s1 := fun v M => r_stw (i := 28 * p + 20 + 1) (v := v) (M := M) (by omega) (by omega)
              have s2 := fun v M => r_stw (i := 28 * p + 20 + 2) (v := v) (M := M) (by omega) (by omega)
              have s3 := fun v M => r_stw (i := 28 * p + 20 + 3) (v := v) (M := M) (by omega) (by omega)
              have s4 := fun v M => r_stw (i := 28 * p + 20 + 4) (v := v) (M := M) (by omega) (by omega)
              have d1 := fun M => r_rd (i := 28 * p + 20 + 1) (M := M) (by omega) (by omega)
              have d2 := fun M => r_rd (i := 28 * p + 20 + 2) (M := M) (by omega) (by omega)
              have d3 := fun M => r_rd (i := 28 * p + 20 + 3) (M := M) (by omega) (by omega)
              have d4 := fun M => r_rd (i := 28 * p + 20 + 4) (M := M) (by omega) (by omega)
              have hg := r_lay5_G (M := M) (p := p) (a := f / 100) (b := f % 100) (c := t / 100) (d := t % 100) h40
              obtain ⟨a1, a2⟩ := r_lay5_J (a := f / 100) (b := f % 100) (c := t / 100) (d := t % 100) hJ h40 q5 ⟨by omega, q3, by omega⟩ ⟨by omega, by omega, by omega⟩
              refine ⟨e_w (e_w (e_w (t / 100 - f / 100) + 1) * e_w (e_w (t % 100 - f % 100) + 1)), _, ?_, a1, a2⟩
              obtain ⟨g0, g1, g2, g3, g4, -⟩ := hg
              unfold r_lay5 at g1 g2 g3 g4 ⊢
              rw [r_ent (show e_rok 219 [192, p, f, t] = true from decide_eq_true r_ref)]
              show e_tv E_C (E_V 219) e_t219_0 [192, p, f, t, 0] M = _
              unfold e_t219_0
              simp [zq_a, zq_b, zq_c, zq_d, zq_e, zq_f, zq_g, zq_h, zq_i, zq_j, zq_k, zq_l, zq_m, zq_n, zq_o, zq_p, zq_q, zq_r, zq_s, zq_t, zq_u, zq_v, zq_w, zq_x, zq_y, zq_z, zq_A, zq_B, zq_C, zq_D, zq_E, zq_F, zq_G, zq_H, zq_I, zq_J, zq_K, zq_L, ↓zq_M, ↓zq_N, ↓zq_O, ↓zq_P, ↓zq_Q, ↓zq_R, zq_S, zq_T, zq_U, zq_V, zq_W, zq_X, zq_Y, zq_Z, zq_0, zq_1, zq_2, zq_3, zq_4, zq_5, ↓zq_6, ↓zq_7, ↓zq_8, ↓zq_9, ↓zq_aa, zq_ab, zq_ac, zq_ad, zq_ae, zq_af, zq_ag, ↓zq_ah, ↓zq_ai, ↓zq_aj, zq_ak, ↓zq_al, ↓zq_am, e_b1, e_b2, x_o1, x_o2, r_O0, ip, kk, q5, k1, k2, e1, e2, e3, e4, q3, q3_n, q4, q4_n, w1, w2, v1, v2, v3, v4, s0, s1, s2, s3, s4, d1, d2, d3, d4, g1, g2, g3, g4]
            · refine r_Ts (r := -3) hJ ?_
              rw [r_ent (show e_rok 219 [192, p, f, t] = true from decide_eq_true r_ref)]
              show e_tv E_C (E_V 219) e_t219_0 [192, p, f, t, 0] M = _
              unfold e_t219_0
              simp [zq_a, zq_b, zq_c, zq_d, zq_e, zq_f, zq_g, zq_h, zq_i, zq_j, zq_k, zq_l, zq_m, zq_n, zq_o, zq_p, zq_q, zq_r, zq_s, zq_t, zq_u, zq_v, zq_w, zq_x, zq_y, zq_z, zq_A, zq_B, zq_C, zq_D, zq_E, zq_F, zq_G, zq_H, zq_I, zq_J, zq_K, zq_L, ↓zq_M, ↓zq_N, ↓zq_O, ↓zq_P, ↓zq_Q, ↓zq_R, zq_S, zq_T, zq_U, zq_V, zq_W, zq_X, zq_Y, zq_Z, zq_0, zq_1, zq_2, zq_3, zq_4, zq_5, ↓zq_6, ↓zq_7, ↓zq_8, ↓zq_9, ↓zq_aa, zq_ab, zq_ac, zq_ad, zq_ae, zq_af, zq_ag, ↓zq_ah, ↓zq_ai, ↓zq_aj, zq_ak, ↓zq_al, ↓zq_am, e_b1, e_b2, x_o1, x_o2, ip, k1, k2, e1, e2, e3, e4, q3, q3_n, q4, q4_n, kk, q5]
        · refine r_Ts (r := -1) hJ ?_
          rw [r_ent (show e_rok 219 [192, p, f, t] = true from decide_eq_true r_ref)]
          show e_tv E_C (E_V 219) e_t219_0 [192, p, f, t, 0] M = _
          unfold e_t219_0
          simp [zq_a, zq_b, zq_c, zq_d, zq_e, zq_f, zq_g, zq_h, zq_i, zq_j, zq_k, zq_l, zq_m, zq_n, zq_o, zq_p, zq_q, zq_r, zq_s, zq_t, zq_u, zq_v, zq_w, zq_x, zq_y, zq_z, zq_A, zq_B, zq_C, zq_D, zq_E, zq_F, zq_G, zq_H, zq_I, zq_J, zq_K, zq_L, ↓zq_M, ↓zq_N, ↓zq_O, ↓zq_P, ↓zq_Q, ↓zq_R, zq_S, zq_T, zq_U, zq_V, zq_W, zq_X, zq_Y, zq_Z, zq_0, zq_1, zq_2, zq_3, zq_4, zq_5, ↓zq_6, ↓zq_7, ↓zq_8, ↓zq_9, ↓zq_aa, zq_ab, zq_ac, zq_ad, zq_ae, zq_af, zq_ag, ↓zq_ah, ↓zq_ai, ↓zq_aj, zq_ak, ↓zq_al, ↓zq_am, e_b1, e_b2, x_o1, x_o2, ip, k1, k2, e1, e3, q3, q3_n]
      · rw [if_neg q2] at k2
        refine r_Ts (r := -1) hJ ?_
        rw [r_ent (show e_rok 219 [192, p, f, t] = true from decide_eq_true r_ref)]
        show e_tv E_C (E_V 219) e_t219_0 [192, p, f, t, 0] M = _
        unfold e_t219_0
        simp [zq_a, zq_b, zq_c, zq_d, zq_e, zq_f, zq_g, zq_h, zq_i, zq_j, zq_k, zq_l, zq_m, zq_n, zq_o, zq_p, zq_q, zq_r, zq_s, zq_t, zq_u, zq_v, zq_w, zq_x, zq_y, zq_z, zq_A, zq_B, zq_C, zq_D, zq_E, zq_F, zq_G, zq_H, zq_I, zq_J, zq_K, zq_L, ↓zq_M, ↓zq_N, ↓zq_O, ↓zq_P, ↓zq_Q, ↓zq_R, zq_S, zq_T, zq_U, zq_V, zq_W, zq_X, zq_Y, zq_Z, zq_0, zq_1, zq_2, zq_3, zq_4, zq_5, ↓zq_6, ↓zq_7, ↓zq_8, ↓zq_9, ↓zq_aa, zq_ab, zq_ac, zq_ad, zq_ae, zq_af, zq_ag, ↓zq_ah, ↓zq_ai, ↓zq_aj, zq_ak, ↓zq_al, ↓zq_am, e_b1, e_b2, x_o1, x_o2, ip, k1, k2]
    · rw [if_neg q1] at k1
      refine r_Ts (r := -1) hJ ?_
      rw [r_ent (show e_rok 219 [192, p, f, t] = true from decide_eq_true r_ref)]
      show e_tv E_C (E_V 219) e_t219_0 [192, p, f, t, 0] M = _
      unfold e_t219_0
      simp [zq_a, zq_b, zq_c, zq_d, zq_e, zq_f, zq_g, zq_h, zq_i, zq_j, zq_k, zq_l, zq_m, zq_n, zq_o, zq_p, zq_q, zq_r, zq_s, zq_t, zq_u, zq_v, zq_w, zq_x, zq_y, zq_z, zq_A, zq_B, zq_C, zq_D, zq_E, zq_F, zq_G, zq_H, zq_I, zq_J, zq_K, zq_L, ↓zq_M, ↓zq_N, ↓zq_O, ↓zq_P, ↓zq_Q, ↓zq_R, zq_S, zq_T, zq_U, zq_V, zq_W, zq_X, zq_Y, zq_Z, zq_0, zq_1, zq_2, zq_3, zq_4, zq_5, ↓zq_6, ↓zq_7, ↓zq_8, ↓zq_9, ↓zq_aa, zq_ab, zq_ac, zq_ad, zq_ae, zq_af, zq_ag, ↓zq_ah, ↓zq_ai, ↓zq_aj, zq_ak, ↓zq_al, ↓zq_am, e_b1, e_b2, x_o1, x_o2, ip, k1]
  · have ip := r_ip0 hW q0
    refine r_Ts (r := -1) hJ ?_
    rw [r_ent (show e_rok 219 [192, p, f, t] = true from decide_eq_true r_ref)]
    show e_tv E_C (E_V 219) e_t219_0 [192, p, f, t, 0] M = _
    unfold e_t219_0
    simp [zq_a, zq_b, zq_c, zq_d, zq_e, zq_f, zq_g, zq_h, zq_i, zq_j, zq_k, zq_l, zq_m, zq_n, zq_o, zq_p, zq_q, zq_r, zq_s, zq_t, zq_u, zq_v, zq_w, zq_x, zq_y, zq_z, zq_A, zq_B, zq_C, zq_D, zq_E, zq_F, zq_G, zq_H, zq_I, zq_J, zq_K, zq_L, ↓zq_M, ↓zq_N, ↓zq_O, ↓zq_P, ↓zq_Q, ↓zq_R, zq_S, zq_T, zq_U, zq_V, zq_W, zq_X, zq_Y, zq_Z, zq_0, zq_1, zq_2, zq_3, zq_4, zq_5, ↓zq_6, ↓zq_7, ↓zq_8, ↓zq_9, ↓zq_aa, zq_ab, zq_ac, zq_ad, zq_ae, zq_af, zq_ag, ↓zq_ah, ↓zq_ai, ↓zq_aj, zq_ak, ↓zq_al, ↓zq_am, e_b1, e_b2, x_o1, x_o2, ip]
/-- a row of the roof, the store, the sky -/
theorem r_J_far {M M' : EM} (hJ : r_J M) (hM : a_M M') (hf : ∀ id k, id ≠ 193 → M' id k = M id k) (hg : ∀ i, i < 1120 ∨ i = 1198 → r_G M' i = r_G M i) (hz : r_Z (r_G M')) : r_J M' := r_J_row hJ hM hf (r_W_far (r_J_E hJ).2.1 hg hz)
def r_wl3 (M : EM) (k x y h : Int) : EM := e_up (e_up (e_up M 193 (1120 + 3 * k).toNat x) 193 (1120 + 3 * k + 1).toNat y) 193 (1120 + 3 * k + 2).toNat h
theorem r_wall_eq {k x y h : Int} {M : EM} : E_C 220 [192, k, x, y, h] M = if (0 ≤ k ∧ k ≤ 9) ∧ (0 ≤ x ∧ x ≤ 19) ∧ (0 ≤ y ∧ y ≤ 11) ∧ 0 ≤ h ∧ h ≤ 30 then some (r_G M (1120 + 3 * k + 2), r_wl3 M k x y h) else some (-1, M) := by
  by_cases q0 : 0 ≤ k ∧ k ≤ 9
  · have i0 := r_in1 (M := M) q0
    by_cases q1 : 0 ≤ x ∧ x ≤ 19
    · have i1 := r_in1 (M := M) q1
      by_cases q2 : 0 ≤ y ∧ y ≤ 11
      · have i2 := r_in1 (M := M) q2
        by_cases q3 : 0 ≤ h ∧ h ≤ 30
        · have i3 := r_in1 (M := M) q3
          rw [if_pos ⟨q0, q1, q2, q3⟩]
          have w1 : e_w (3 * k) = 3 * k := a_w_id (by omega) (by omega)
          have w2 : e_w (1120 + 3 * k) = 1120 + 3 * k := a_w_id (by omega) (by omega)
          have w3 : e_w (1120 + 3 * k + 1) = 1120 + 3 * k + 1 := a_w_id (by omega) (by omega)
          have w4 : e_w (1120 + 3 * k + 2) = 1120 + 3 * k + 2 := a_w_id (by omega) (by omega)
          have d2 := fun M => r_rd (i := 1120 + 3 * k + 2) (M := M) (by omega) (by omega)
          have s0 := fun v M => r_stw (i := 1120 + 3 * k) (v := v) (M := M) (by omega) (by omega)
          have s1 := fun v M => r_stw (i := 1120 + 3 * k + 1) (v := v) (M := M) (by omega) (by omega)
          have s2 := fun v M => r_stw (i := 1120 + 3 * k + 2) (v := v) (M := M) (by omega) (by omega)
          unfold r_wl3
          rw [r_ent (show e_rok 220 [192, k, x, y, h] = true from decide_eq_true r_ref)]
          show e_tv E_C (E_V 220) e_t220_0 [192, k, x, y, h, 0] M = _
          unfold e_t220_0
          simp [zq_a, zq_b, zq_c, zq_d, zq_e, zq_f, zq_g, zq_h, zq_i, zq_j, zq_k, zq_l, zq_m, zq_n, zq_o, zq_p, zq_q, zq_r, zq_s, zq_t, zq_u, zq_v, zq_w, zq_x, zq_y, zq_z, zq_A, zq_B, zq_C, zq_D, zq_E, zq_F, zq_G, zq_H, zq_I, zq_J, zq_K, zq_L, ↓zq_M, ↓zq_N, ↓zq_O, ↓zq_P, ↓zq_Q, ↓zq_R, zq_S, zq_T, zq_U, zq_V, zq_W, zq_X, zq_Y, zq_Z, zq_0, zq_1, zq_2, zq_3, zq_4, zq_5, ↓zq_6, ↓zq_7, ↓zq_8, ↓zq_9, ↓zq_aa, zq_ab, zq_ac, zq_ad, zq_ae, zq_af, zq_ag, ↓zq_ah, ↓zq_ai, ↓zq_aj, zq_ak, ↓zq_al, ↓zq_am, e_b1, e_b2, x_o1, x_o2, r_O0, i0, i1, i2, i3, w1, w2, w3, w4, d2, s0, s1, s2]
        · have i3 := r_in0 (M := M) q3
          rw [if_neg (fun e => q3 e.2.2.2)]
          rw [r_ent (show e_rok 220 [192, k, x, y, h] = true from decide_eq_true r_ref)]
          show e_tv E_C (E_V 220) e_t220_0 [192, k, x, y, h, 0] M = _
          unfold e_t220_0
          simp [zq_a, zq_b, zq_c, zq_d, zq_e, zq_f, zq_g, zq_h, zq_i, zq_j, zq_k, zq_l, zq_m, zq_n, zq_o, zq_p, zq_q, zq_r, zq_s, zq_t, zq_u, zq_v, zq_w, zq_x, zq_y, zq_z, zq_A, zq_B, zq_C, zq_D, zq_E, zq_F, zq_G, zq_H, zq_I, zq_J, zq_K, zq_L, ↓zq_M, ↓zq_N, ↓zq_O, ↓zq_P, ↓zq_Q, ↓zq_R, zq_S, zq_T, zq_U, zq_V, zq_W, zq_X, zq_Y, zq_Z, zq_0, zq_1, zq_2, zq_3, zq_4, zq_5, ↓zq_6, ↓zq_7, ↓zq_8, ↓zq_9, ↓zq_aa, zq_ab, zq_ac, zq_ad, zq_ae, zq_af, zq_ag, ↓zq_ah, ↓zq_ai, ↓zq_aj, zq_ak, ↓zq_al, ↓zq_am, e_b1, e_b2, x_o1, x_o2, i0, i1, i2, i3]
      · have i2 := r_in0 (M := M) q2
        rw [if_neg (fun e => q2 e.2.2.1)]
        rw [r_ent (show e_rok 220 [192, k, x, y, h] = true from decide_eq_true r_ref)]
        show e_tv E_C (E_V 220) e_t220_0 [192, k, x, y, h, 0] M = _
        unfold e_t220_0
        simp [zq_a, zq_b, zq_c, zq_d, zq_e, zq_f, zq_g, zq_h, zq_i, zq_j, zq_k, zq_l, zq_m, zq_n, zq_o, zq_p, zq_q, zq_r, zq_s, zq_t, zq_u, zq_v, zq_w, zq_x, zq_y, zq_z, zq_A, zq_B, zq_C, zq_D, zq_E, zq_F, zq_G, zq_H, zq_I, zq_J, zq_K, zq_L, ↓zq_M, ↓zq_N, ↓zq_O, ↓zq_P, ↓zq_Q, ↓zq_R, zq_S, zq_T, zq_U, zq_V, zq_W, zq_X, zq_Y, zq_Z, zq_0, zq_1, zq_2, zq_3, zq_4, zq_5, ↓zq_6, ↓zq_7, ↓zq_8, ↓zq_9, ↓zq_aa, zq_ab, zq_ac, zq_ad, zq_ae, zq_af, zq_ag, ↓zq_ah, ↓zq_ai, ↓zq_aj, zq_ak, ↓zq_al, ↓zq_am, e_b1, e_b2, x_o1, x_o2, i0, i1, i2]
    · have i1 := r_in0 (M := M) q1
      rw [if_neg (fun e => q1 e.2.1)]
      rw [r_ent (show e_rok 220 [192, k, x, y, h] = true from decide_eq_true r_ref)]
      show e_tv E_C (E_V 220) e_t220_0 [192, k, x, y, h, 0] M = _
      unfold e_t220_0
      simp [zq_a, zq_b, zq_c, zq_d, zq_e, zq_f, zq_g, zq_h, zq_i, zq_j, zq_k, zq_l, zq_m, zq_n, zq_o, zq_p, zq_q, zq_r, zq_s, zq_t, zq_u, zq_v, zq_w, zq_x, zq_y, zq_z, zq_A, zq_B, zq_C, zq_D, zq_E, zq_F, zq_G, zq_H, zq_I, zq_J, zq_K, zq_L, ↓zq_M, ↓zq_N, ↓zq_O, ↓zq_P, ↓zq_Q, ↓zq_R, zq_S, zq_T, zq_U, zq_V, zq_W, zq_X, zq_Y, zq_Z, zq_0, zq_1, zq_2, zq_3, zq_4, zq_5, ↓zq_6, ↓zq_7, ↓zq_8, ↓zq_9, ↓zq_aa, zq_ab, zq_ac, zq_ad, zq_ae, zq_af, zq_ag, ↓zq_ah, ↓zq_ai, ↓zq_aj, zq_ak, ↓zq_al, ↓zq_am, e_b1, e_b2, x_o1, x_o2, i0, i1]
  · have i0 := r_in0 (M := M) q0
    rw [if_neg (fun e => q0 e.1)]
    rw [r_ent (show e_rok 220 [192, k, x, y, h] = true from decide_eq_true r_ref)]
    show e_tv E_C (E_V 220) e_t220_0 [192, k, x, y, h, 0] M = _
    unfold e_t220_0
    simp [zq_a, zq_b, zq_c, zq_d, zq_e, zq_f, zq_g, zq_h, zq_i, zq_j, zq_k, zq_l, zq_m, zq_n, zq_o, zq_p, zq_q, zq_r, zq_s, zq_t, zq_u, zq_v, zq_w, zq_x, zq_y, zq_z, zq_A, zq_B, zq_C, zq_D, zq_E, zq_F, zq_G, zq_H, zq_I, zq_J, zq_K, zq_L, ↓zq_M, ↓zq_N, ↓zq_O, ↓zq_P, ↓zq_Q, ↓zq_R, zq_S, zq_T, zq_U, zq_V, zq_W, zq_X, zq_Y, zq_Z, zq_0, zq_1, zq_2, zq_3, zq_4, zq_5, ↓zq_6, ↓zq_7, ↓zq_8, ↓zq_9, ↓zq_aa, zq_ab, zq_ac, zq_ad, zq_ae, zq_af, zq_ag, ↓zq_ah, ↓zq_ai, ↓zq_aj, zq_ak, ↓zq_al, ↓zq_am, e_b1, e_b2, x_o1, x_o2, i0]
theorem r_Z_eq {g g' : Int → Int} (hz : r_Z g) (h : ∀ i, 1174 ≤ i → i ≤ 1200 → g' i = g i) : r_Z g' := by
  obtain ⟨z1, z2, z3, z4, z5⟩ := hz
  refine ⟨by rw [h _ (by decide) (by decide)]; exact z1, by rw [h _ (by decide) (by decide)]; exact z2, fun k k0 k1 => ?_, by rw [h _ (by decide) (by decide)]; exact z4, by rw [h _ (by decide) (by decide)]; exact z5⟩
  rw [h _ (by omega) (by omega), h _ (by omega) (by omega)]
  exact z3 k k0 k1
def r_wW : AW := [(193, 1120, 1149)]
theorem r_wall {k x y h : Int} {M : EM} (hJ : r_J M) : r_T r_wW 220 [192, k, x, y, h] M := by
  by_cases q : (0 ≤ k ∧ k ≤ 9) ∧ (0 ≤ x ∧ x ≤ 19) ∧ (0 ≤ y ∧ y ≤ 11) ∧ 0 ≤ h ∧ h ≤ 30
  · refine ⟨_, r_wl3 M k x y h, by rw [r_wall_eq, if_pos q], r_J_far hJ ?_ ?_ ?_ ?_, ?_⟩
    · exact r_upw ⟨by omega, by omega⟩ (r_upw ⟨by omega, by omega⟩ (r_upw ⟨by omega, by omega⟩ hJ.1))
    · intro id j hne
      exact (r_n193 hne).trans ((r_n193 hne).trans (r_n193 hne))
    · intro i hi
      exact (r_G_n (by omega) (by omega)).trans ((r_G_n (by omega) (by omega)).trans (r_G_n (by omega) (by omega)))
    · exact r_Z_eq (r_Zof hJ) (fun i i0 i1 => (r_G_n (by omega) (by omega)).trans ((r_G_n (by omega) (by omega)).trans (r_G_n (by omega) (by omega))))
    · exact a_fr_tr (r_frw (a := 1120) (b := 1149) List.mem_cons_self (by omega) (by omega)) (a_fr_tr (r_frw (a := 1120) (b := 1149) List.mem_cons_self (by omega) (by omega)) (r_frw (a := 1120) (b := 1149) List.mem_cons_self (by omega) (by omega)))
  · exact r_Ts (r := -1) hJ (by rw [r_wall_eq, if_neg q])
def r_sn2 (M : EM) (h d l : Int) : EM := e_up (e_up M 193 (1150 + 2 * h).toNat d) 193 (1150 + 2 * h + 1).toNat l
theorem r_sun_eq {h d l : Int} {M : EM} : E_C 221 [192, h, d, l] M = if (0 ≤ h ∧ h ≤ 11) ∧ (0 ≤ d ∧ d ≤ 7) ∧ 0 ≤ l ∧ l ≤ 30 then some (e_w (e_w (100 * r_G M (1150 + 2 * h)) + r_G M (1150 + 2 * h + 1)), r_sn2 M h d l) else some (-1, M) := by
  by_cases q0 : 0 ≤ h ∧ h ≤ 11
  · have i0 := r_in1 (M := M) q0
    by_cases q1 : 0 ≤ d ∧ d ≤ 7
    · have i1 := r_in1 (M := M) q1
      by_cases q2 : 0 ≤ l ∧ l ≤ 30
      · have i2 := r_in1 (M := M) q2
        rw [if_pos ⟨q0, q1, q2⟩]
        have w1 : e_w (2 * h) = 2 * h := a_w_id (by omega) (by omega)
        have w2 : e_w (1150 + 2 * h) = 1150 + 2 * h := a_w_id (by omega) (by omega)
        have w3 : e_w (1150 + 2 * h + 1) = 1150 + 2 * h + 1 := a_w_id (by omega) (by omega)
        have d1 := fun M => r_rd (i := 1150 + 2 * h) (M := M) (by omega) (by omega)
        have d2 := fun M => r_rd (i := 1150 + 2 * h + 1) (M := M) (by omega) (by omega)
        have s0 := fun v M => r_stw (i := 1150 + 2 * h) (v := v) (M := M) (by omega) (by omega)
        have s1 := fun v M => r_stw (i := 1150 + 2 * h + 1) (v := v) (M := M) (by omega) (by omega)
        unfold r_sn2
        rw [r_ent (show e_rok 221 [192, h, d, l] = true from decide_eq_true r_ref)]
        show e_tv E_C (E_V 221) e_t221_0 [192, h, d, l, 0] M = _
        unfold e_t221_0
        simp [zq_a, zq_b, zq_c, zq_d, zq_e, zq_f, zq_g, zq_h, zq_i, zq_j, zq_k, zq_l, zq_m, zq_n, zq_o, zq_p, zq_q, zq_r, zq_s, zq_t, zq_u, zq_v, zq_w, zq_x, zq_y, zq_z, zq_A, zq_B, zq_C, zq_D, zq_E, zq_F, zq_G, zq_H, zq_I, zq_J, zq_K, zq_L, ↓zq_M, ↓zq_N, ↓zq_O, ↓zq_P, ↓zq_Q, ↓zq_R, zq_S, zq_T, zq_U, zq_V, zq_W, zq_X, zq_Y, zq_Z, zq_0, zq_1, zq_2, zq_3, zq_4, zq_5, ↓zq_6, ↓zq_7, ↓zq_8, ↓zq_9, ↓zq_aa, zq_ab, zq_ac, zq_ad, zq_ae, zq_af, zq_ag, ↓zq_ah, ↓zq_ai, ↓zq_aj, zq_ak, ↓zq_al, ↓zq_am, e_b1, e_b2, x_o1, x_o2, r_O0, i0, i1, i2, w1, w2, w3, d1, d2, s0, s1]
      · have i2 := r_in0 (M := M) q2
        rw [if_neg (fun e => q2 e.2.2)]
        rw [r_ent (show e_rok 221 [192, h, d, l] = true from decide_eq_true r_ref)]
        show e_tv E_C (E_V 221) e_t221_0 [192, h, d, l, 0] M = _
        unfold e_t221_0
        simp [zq_a, zq_b, zq_c, zq_d, zq_e, zq_f, zq_g, zq_h, zq_i, zq_j, zq_k, zq_l, zq_m, zq_n, zq_o, zq_p, zq_q, zq_r, zq_s, zq_t, zq_u, zq_v, zq_w, zq_x, zq_y, zq_z, zq_A, zq_B, zq_C, zq_D, zq_E, zq_F, zq_G, zq_H, zq_I, zq_J, zq_K, zq_L, ↓zq_M, ↓zq_N, ↓zq_O, ↓zq_P, ↓zq_Q, ↓zq_R, zq_S, zq_T, zq_U, zq_V, zq_W, zq_X, zq_Y, zq_Z, zq_0, zq_1, zq_2, zq_3, zq_4, zq_5, ↓zq_6, ↓zq_7, ↓zq_8, ↓zq_9, ↓zq_aa, zq_ab, zq_ac, zq_ad, zq_ae, zq_af, zq_ag, ↓zq_ah, ↓zq_ai, ↓zq_aj, zq_ak, ↓zq_al, ↓zq_am, e_b1, e_b2, x_o1, x_o2, i0, i1, i2]
    · have i1 := r_in0 (M := M) q1
      rw [if_neg (fun e => q1 e.2.1)]
      rw [r_ent (show e_rok 221 [192, h, d, l] = true from decide_eq_true r_ref)]
      show e_tv E_C (E_V 221) e_t221_0 [192, h, d, l, 0] M = _
      unfold e_t221_0
      simp [zq_a, zq_b, zq_c, zq_d, zq_e, zq_f, zq_g, zq_h, zq_i, zq_j, zq_k, zq_l, zq_m, zq_n, zq_o, zq_p, zq_q, zq_r, zq_s, zq_t, zq_u, zq_v, zq_w, zq_x, zq_y, zq_z, zq_A, zq_B, zq_C, zq_D, zq_E, zq_F, zq_G, zq_H, zq_I, zq_J, zq_K, zq_L, ↓zq_M, ↓zq_N, ↓zq_O, ↓zq_P, ↓zq_Q, ↓zq_R, zq_S, zq_T, zq_U, zq_V, zq_W, zq_X, zq_Y, zq_Z, zq_0, zq_1, zq_2, zq_3, zq_4, zq_5, ↓zq_6, ↓zq_7, ↓zq_8, ↓zq_9, ↓zq_aa, zq_ab, zq_ac, zq_ad, zq_ae, zq_af, zq_ag, ↓zq_ah, ↓zq_ai, ↓zq_aj, zq_ak, ↓zq_al, ↓zq_am, e_b1, e_b2, x_o1, x_o2, i0, i1]
  · have i0 := r_in0 (M := M) q0
    rw [if_neg (fun e => q0 e.1)]
    rw [r_ent (show e_rok 221 [192, h, d, l] = true from decide_eq_true r_ref)]
    show e_tv E_C (E_V 221) e_t221_0 [192, h, d, l, 0] M = _
    unfold e_t221_0
    simp [zq_a, zq_b, zq_c, zq_d, zq_e, zq_f, zq_g, zq_h, zq_i, zq_j, zq_k, zq_l, zq_m, zq_n, zq_o, zq_p, zq_q, zq_r, zq_s, zq_t, zq_u, zq_v, zq_w, zq_x, zq_y, zq_z, zq_A, zq_B, zq_C, zq_D, zq_E, zq_F, zq_G, zq_H, zq_I, zq_J, zq_K, zq_L, ↓zq_M, ↓zq_N, ↓zq_O, ↓zq_P, ↓zq_Q, ↓zq_R, zq_S, zq_T, zq_U, zq_V, zq_W, zq_X, zq_Y, zq_Z, zq_0, zq_1, zq_2, zq_3, zq_4, zq_5, ↓zq_6, ↓zq_7, ↓zq_8, ↓zq_9, ↓zq_aa, zq_ab, zq_ac, zq_ad, zq_ae, zq_af, zq_ag, ↓zq_ah, ↓zq_ai, ↓zq_aj, zq_ak, ↓zq_al, ↓zq_am, e_b1, e_b2, x_o1, x_o2, i0]
def r_wS : AW := [(193, 1150, 1173)]
theorem r_sun {h d l : Int} {M : EM} (hJ : r_J M) : r_T r_wS 221 [192, h, d, l] M := by
  by_cases q : (0 ≤ h ∧ h ≤ 11) ∧ (0 ≤ d ∧ d ≤ 7) ∧ 0 ≤ l ∧ l ≤ 30
  · refine ⟨_, r_sn2 M h d l, by rw [r_sun_eq, if_pos q], r_J_far hJ ?_ ?_ ?_ ?_, ?_⟩
    · exact r_upw ⟨by omega, by omega⟩ (r_upw ⟨by omega, by omega⟩ hJ.1)
    · intro id j hne
      exact (r_n193 hne).trans (r_n193 hne)
    · intro i hi
      exact (r_G_n (by omega) (by omega)).trans (r_G_n (by omega) (by omega))
    · exact r_Z_eq (r_Zof hJ) (fun i i0 i1 => (r_G_n (by omega) (by omega)).trans (r_G_n (by omega) (by omega)))
    · exact a_fr_tr (r_frw (a := 1150) (b := 1173) List.mem_cons_self (by omega) (by omega)) (r_frw (a := 1150) (b := 1173) List.mem_cons_self (by omega) (by omega))
  · exact r_Ts (r := -1) hJ (by rw [r_sun_eq, if_neg q])
def r_tr2 (M : EM) (h t : Int) : EM := e_up (e_up M 193 (1174 + 2 * h).toNat (t / 100)) 193 (1174 + 2 * h + 1).toNat (t % 100)
theorem r_trade_eq {h t : Int} {M : EM} (ht : t ≤ 2147483647) : E_C 241 [192, h, t] M = if (0 ≤ h ∧ h ≤ 11) ∧ 0 ≤ t ∧ t / 100 ≤ 20 then some (e_w (e_w (100 * r_G M (1174 + 2 * h)) + r_G M (1174 + 2 * h + 1)), r_tr2 M h t) else some (-1, M) := by
  by_cases q0 : 0 ≤ h ∧ h ≤ 11
  · have i0 := r_in1 (M := M) q0
    rcases x_le 0 t with ⟨q1, q1_n⟩ | ⟨q1, q1_n⟩
    · obtain ⟨e1, e2⟩ := r_sq (v := t) (c := 100) ⟨q1, ht⟩ (by decide)
      rcases x_lt 20 (t / 100) with ⟨q2, q2_n⟩ | ⟨q2, q2_n⟩
      · rw [if_neg (fun e => by omega)]
        rw [r_ent (show e_rok 241 [192, h, t] = true from decide_eq_true r_ref)]
        show e_tv E_C (E_V 241) e_t241_0 [192, h, t, 0] M = _
        unfold e_t241_0
        simp [zq_a, zq_b, zq_c, zq_d, zq_e, zq_f, zq_g, zq_h, zq_i, zq_j, zq_k, zq_l, zq_m, zq_n, zq_o, zq_p, zq_q, zq_r, zq_s, zq_t, zq_u, zq_v, zq_w, zq_x, zq_y, zq_z, zq_A, zq_B, zq_C, zq_D, zq_E, zq_F, zq_G, zq_H, zq_I, zq_J, zq_K, zq_L, ↓zq_M, ↓zq_N, ↓zq_O, ↓zq_P, ↓zq_Q, ↓zq_R, zq_S, zq_T, zq_U, zq_V, zq_W, zq_X, zq_Y, zq_Z, zq_0, zq_1, zq_2, zq_3, zq_4, zq_5, ↓zq_6, ↓zq_7, ↓zq_8, ↓zq_9, ↓zq_aa, zq_ab, zq_ac, zq_ad, zq_ae, zq_af, zq_ag, ↓zq_ah, ↓zq_ai, ↓zq_aj, zq_ak, ↓zq_al, ↓zq_am, e_b1, e_b2, x_o1, x_o2, i0, q1, q1_n, e1, q2, q2_n]
      · rw [if_pos ⟨q0, q1, by omega⟩]
        have w1 : e_w (2 * h) = 2 * h := a_w_id (by omega) (by omega)
        have w2 : e_w (1174 + 2 * h) = 1174 + 2 * h := a_w_id (by omega) (by omega)
        have w3 : e_w (1174 + 2 * h + 1) = 1174 + 2 * h + 1 := a_w_id (by omega) (by omega)
        have d1 := fun M => r_rd (i := 1174 + 2 * h) (M := M) (by omega) (by omega)
        have d2 := fun M => r_rd (i := 1174 + 2 * h + 1) (M := M) (by omega) (by omega)
        have s0 := fun v M => r_stw (i := 1174 + 2 * h) (v := v) (M := M) (by omega) (by omega)
        have s1 := fun v M => r_stw (i := 1174 + 2 * h + 1) (v := v) (M := M) (by omega) (by omega)
        unfold r_tr2
        rw [r_ent (show e_rok 241 [192, h, t] = true from decide_eq_true r_ref)]
        show e_tv E_C (E_V 241) e_t241_0 [192, h, t, 0] M = _
        unfold e_t241_0
        simp [zq_a, zq_b, zq_c, zq_d, zq_e, zq_f, zq_g, zq_h, zq_i, zq_j, zq_k, zq_l, zq_m, zq_n, zq_o, zq_p, zq_q, zq_r, zq_s, zq_t, zq_u, zq_v, zq_w, zq_x, zq_y, zq_z, zq_A, zq_B, zq_C, zq_D, zq_E, zq_F, zq_G, zq_H, zq_I, zq_J, zq_K, zq_L, ↓zq_M, ↓zq_N, ↓zq_O, ↓zq_P, ↓zq_Q, ↓zq_R, zq_S, zq_T, zq_U, zq_V, zq_W, zq_X, zq_Y, zq_Z, zq_0, zq_1, zq_2, zq_3, zq_4, zq_5, ↓zq_6, ↓zq_7, ↓zq_8, ↓zq_9, ↓zq_aa, zq_ab, zq_ac, zq_ad, zq_ae, zq_af, zq_ag, ↓zq_ah, ↓zq_ai, ↓zq_aj, zq_ak, ↓zq_al, ↓zq_am, e_b1, e_b2, x_o1, x_o2, r_O0, i0, q1, q1_n, e1, e2, q2, q2_n, w1, w2, w3, d1, d2, s0, s1]
    · rw [if_neg (fun e => q1 e.2.1)]
      rw [r_ent (show e_rok 241 [192, h, t] = true from decide_eq_true r_ref)]
      show e_tv E_C (E_V 241) e_t241_0 [192, h, t, 0] M = _
      unfold e_t241_0
      simp [zq_a, zq_b, zq_c, zq_d, zq_e, zq_f, zq_g, zq_h, zq_i, zq_j, zq_k, zq_l, zq_m, zq_n, zq_o, zq_p, zq_q, zq_r, zq_s, zq_t, zq_u, zq_v, zq_w, zq_x, zq_y, zq_z, zq_A, zq_B, zq_C, zq_D, zq_E, zq_F, zq_G, zq_H, zq_I, zq_J, zq_K, zq_L, ↓zq_M, ↓zq_N, ↓zq_O, ↓zq_P, ↓zq_Q, ↓zq_R, zq_S, zq_T, zq_U, zq_V, zq_W, zq_X, zq_Y, zq_Z, zq_0, zq_1, zq_2, zq_3, zq_4, zq_5, ↓zq_6, ↓zq_7, ↓zq_8, ↓zq_9, ↓zq_aa, zq_ab, zq_ac, zq_ad, zq_ae, zq_af, zq_ag, ↓zq_ah, ↓zq_ai, ↓zq_aj, zq_ak, ↓zq_al, ↓zq_am, e_b1, e_b2, x_o1, x_o2, i0, q1, q1_n]
  · have i0 := r_in0 (M := M) q0
    rw [if_neg (fun e => q0 e.1)]
    rw [r_ent (show e_rok 241 [192, h, t] = true from decide_eq_true r_ref)]
    show e_tv E_C (E_V 241) e_t241_0 [192, h, t, 0] M = _
    unfold e_t241_0
    simp [zq_a, zq_b, zq_c, zq_d, zq_e, zq_f, zq_g, zq_h, zq_i, zq_j, zq_k, zq_l, zq_m, zq_n, zq_o, zq_p, zq_q, zq_r, zq_s, zq_t, zq_u, zq_v, zq_w, zq_x, zq_y, zq_z, zq_A, zq_B, zq_C, zq_D, zq_E, zq_F, zq_G, zq_H, zq_I, zq_J, zq_K, zq_L, ↓zq_M, ↓zq_N, ↓zq_O, ↓zq_P, ↓zq_Q, ↓zq_R, zq_S, zq_T, zq_U, zq_V, zq_W, zq_X, zq_Y, zq_Z, zq_0, zq_1, zq_2, zq_3, zq_4, zq_5, ↓zq_6, ↓zq_7, ↓zq_8, ↓zq_9, ↓zq_aa, zq_ab, zq_ac, zq_ad, zq_ae, zq_af, zq_ag, ↓zq_ah, ↓zq_ai, ↓zq_aj, zq_ak, ↓zq_al, ↓zq_am, e_b1, e_b2, x_o1, x_o2, i0]
def r_wT : AW := [(193, 1174, 1197)]
theorem r_trade {h t : Int} {M : EM} (hJ : r_J M) (ht : t ≤ 2147483647) : r_T r_wT 241 [192, h, t] M := by
  by_cases q : (0 ≤ h ∧ h ≤ 11) ∧ 0 ≤ t ∧ t / 100 ≤ 20
  · refine ⟨_, r_tr2 M h t, by rw [r_trade_eq ht, if_pos q], r_J_far hJ ?_ ?_ ?_ ?_, ?_⟩
    · exact r_upw ⟨by omega, by omega⟩ (r_upw ⟨by omega, by omega⟩ hJ.1)
    · intro id j hne
      exact (r_n193 hne).trans (r_n193 hne)
    · intro i hi
      exact (r_G_n (by omega) (by omega)).trans (r_G_n (by omega) (by omega))
    · obtain ⟨z1, z2, z3, z4, z5⟩ := r_Zof hJ
      have far : ∀ i, i < 1174 + 2 * h ∨ 1174 + 2 * h + 1 < i → r_G (r_tr2 M h t) i = r_G M i := fun i hi => (r_G_n (by omega) (by omega)).trans (r_G_n (by omega) (by omega))
      refine ⟨by rw [far _ (by omega)]; exact z1, by rw [far _ (by omega)]; exact z2, fun k k0 k1 => ?_, by rw [far _ (by omega)]; exact z4, by rw [far _ (by omega)]; exact z5⟩
      by_cases hk : k = h
      · subst hk
        have a1 : r_G (r_tr2 M k t) (1174 + 2 * k) = t / 100 := (r_G_n (by omega) (by omega)).trans r_G_s
        have a2 : r_G (r_tr2 M k t) (1174 + 2 * k + 1) = t % 100 := r_G_s
        rw [a1, a2]
        omega
      · rw [far _ (by omega), far _ (by omega)]
        exact z3 k k0 k1
    · exact a_fr_tr (r_frw (a := 1174) (b := 1197) List.mem_cons_self (by omega) (by omega)) (r_frw (a := 1174) (b := 1197) List.mem_cons_self (by omega) (by omega))
  · exact r_Ts (r := -1) hJ (by rw [r_trade_eq ht, if_neg q])
theorem r_room_eq {n : Int} {M : EM} : E_C 242 [192, n] M = if 0 ≤ n ∧ n ≤ 30 then some (r_G M 1199, e_up M 193 1199 n) else some (-1, M) := by
  by_cases q0 : 0 ≤ n ∧ n ≤ 30
  · have i0 := r_in1 (M := M) q0
    rw [if_pos q0]
    have d1 := r_rd (i := 1199) (M := M) (by decide) (by decide)
    have s0 : e_st 100 [193, 1199, n] M = some (e_up M 193 1199 n) := r_stw (i := 1199) (v := n) (M := M) (by decide) (by decide)
    rw [r_ent (show e_rok 242 [192, n] = true from decide_eq_true r_ref)]
    show e_tv E_C (E_V 242) e_t242_0 [192, n, 0] M = _
    unfold e_t242_0
    simp [zq_a, zq_b, zq_c, zq_d, zq_e, zq_f, zq_g, zq_h, zq_i, zq_j, zq_k, zq_l, zq_m, zq_n, zq_o, zq_p, zq_q, zq_r, zq_s, zq_t, zq_u, zq_v, zq_w, zq_x, zq_y, zq_z, zq_A, zq_B, zq_C, zq_D, zq_E, zq_F, zq_G, zq_H, zq_I, zq_J, zq_K, zq_L, ↓zq_M, ↓zq_N, ↓zq_O, ↓zq_P, ↓zq_Q, ↓zq_R, zq_S, zq_T, zq_U, zq_V, zq_W, zq_X, zq_Y, zq_Z, zq_0, zq_1, zq_2, zq_3, zq_4, zq_5, ↓zq_6, ↓zq_7, ↓zq_8, ↓zq_9, ↓zq_aa, zq_ab, zq_ac, zq_ad, zq_ae, zq_af, zq_ag, ↓zq_ah, ↓zq_ai, ↓zq_aj, zq_ak, ↓zq_al, ↓zq_am, e_b1, e_b2, x_o1, x_o2, r_O0, i0, d1, s0]
  · have i0 := r_in0 (M := M) q0
    rw [if_neg q0]
    rw [r_ent (show e_rok 242 [192, n] = true from decide_eq_true r_ref)]
    show e_tv E_C (E_V 242) e_t242_0 [192, n, 0] M = _
    unfold e_t242_0
    simp [zq_a, zq_b, zq_c, zq_d, zq_e, zq_f, zq_g, zq_h, zq_i, zq_j, zq_k, zq_l, zq_m, zq_n, zq_o, zq_p, zq_q, zq_r, zq_s, zq_t, zq_u, zq_v, zq_w, zq_x, zq_y, zq_z, zq_A, zq_B, zq_C, zq_D, zq_E, zq_F, zq_G, zq_H, zq_I, zq_J, zq_K, zq_L, ↓zq_M, ↓zq_N, ↓zq_O, ↓zq_P, ↓zq_Q, ↓zq_R, zq_S, zq_T, zq_U, zq_V, zq_W, zq_X, zq_Y, zq_Z, zq_0, zq_1, zq_2, zq_3, zq_4, zq_5, ↓zq_6, ↓zq_7, ↓zq_8, ↓zq_9, ↓zq_aa, zq_ab, zq_ac, zq_ad, zq_ae, zq_af, zq_ag, ↓zq_ah, ↓zq_ai, ↓zq_aj, zq_ak, ↓zq_al, ↓zq_am, e_b1, e_b2, x_o1, x_o2, i0]
def r_wR : AW := [(193, 1199, 1199)]
theorem r_room {n : Int} {M : EM} (hJ : r_J M) : r_T r_wR 242 [192, n] M := by
  by_cases q : 0 ≤ n ∧ n ≤ 30
  · have h1 : e_up M 193 1199 n = e_up M 193 (1199 : Int).toNat n := rfl
    refine ⟨_, e_up M 193 (1199 : Int).toNat n, by rw [r_room_eq, if_pos q, h1], r_J_far hJ ?_ ?_ ?_ ?_, ?_⟩
    · exact r_upw ⟨by omega, by omega⟩ hJ.1
    · intro id j hne
      exact r_n193 hne
    · intro i hi
      exact r_G_n (by omega) (by omega)
    · obtain ⟨z1, z2, z3, z4, z5⟩ := r_Zof hJ
      have far : ∀ i, i ≠ 1199 → r_G (e_up M 193 (1199 : Int).toNat n) i = r_G M i := fun i hi => r_G_n (by decide) hi
      have a1 : r_G (e_up M 193 (1199 : Int).toNat n) 1199 = n := r_G_s
      refine ⟨by rw [a1]; exact q.1, by rw [a1]; exact q.2, fun k k0 k1 => ?_, by rw [far _ (by omega)]; exact z4, by rw [far _ (by omega)]; exact z5⟩
      rw [far _ (by omega), far _ (by omega)]
      exact z3 k k0 k1
    · exact r_frw (a := 1199) (b := 1199) List.mem_cons_self (by decide) (by decide)
  · exact r_Ts (r := -1) hJ (by rw [r_room_eq, if_neg q])
