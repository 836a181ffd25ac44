section
/-! washing days planned by the class -/
def wh_y (G : Nat → Int) (r : Int) (k s : Nat) : Int := (G k * (100 - (if 50 < r * (s : Int) then 50 else r * (s : Int)))).tdiv 100
theorem wh_q {a w : Int} (h0 : 0 ≤ a ∧ a ≤ 999) (h1 : 50 ≤ w ∧ w ≤ 100) : (0 ≤ a * w ∧ a * w ≤ 99900) ∧ 0 ≤ (a * w).tdiv 100 ∧ (a * w).tdiv 100 ≤ 999 := by
  have z : 0 ≤ a * w := Int.mul_nonneg h0.1 (by omega)
  have b : a * w ≤ a * 100 := Int.mul_le_mul_of_nonneg_left h1.2 h0.1
  rw [Int.tdiv_eq_ediv_of_nonneg z]
  omega
theorem wh_d {r : Int} {s : Nat} (hr : 0 ≤ r ∧ r ≤ 20) (hs : s ≤ 120) : (0 ≤ r * (s : Int) ∧ r * (s : Int) ≤ 2400) ∧ 50 ≤ 100 - (if 50 < r * (s : Int) then (50 : Int) else r * (s : Int)) ∧ 100 - (if 50 < r * (s : Int) then (50 : Int) else r * (s : Int)) ≤ 100 := by
  have z : 0 ≤ r * (s : Int) := Int.mul_nonneg hr.1 (by omega)
  have b : r * (s : Int) ≤ 20 * (s : Int) := Int.mul_le_mul_of_nonneg_right hr.2 (by omega)
  generalize r * (s : Int) = x at *
  split <;> omega
theorem wh_yb {G : Nat → Int} {r : Int} {k s : Nat} (hG : 0 ≤ G k ∧ G k ≤ 999) (hr : 0 ≤ r ∧ r ≤ 20) (hs : s ≤ 120) : 0 ≤ wh_y G r k s ∧ wh_y G r k s ≤ 999 := (wh_q hG (wh_d hr hs).2).2
theorem wh_Ab {y : Nat → Nat → Int} {c : Nat} : ∀ j, (∀ i, i < j → 0 ≤ y (c + i) i ∧ y (c + i) i ≤ 999) → 0 ≤ wh_A y c j ∧ wh_A y c j ≤ 999 * j := by
  intro j
  induction j with
  | zero => intro _; exact ⟨Int.le_refl _, Int.le_refl _⟩
  | succ j ih =>
    intro h
    have a := ih (fun i hi => h i (by omega))
    have b := h j (by omega)
    show 0 ≤ wh_A y c j + y (c + j) j ∧ wh_A y c j + y (c + j) j ≤ 999 * ((j + 1 : Nat) : Int)
    omega
theorem ws_F0 (M : EM) : e_gf 640 [183] M = some (M 183 0) := c_gf (by decide +kernel) (by decide +kernel)
theorem ws_P0 (v : Int) (M : EM) : e_pf 640 [183, v] M = some (e_up M 183 0 v) := c_pf (by decide +kernel) (by decide +kernel)
theorem ws_G1 (M : EM) : e_gf 641 [183] M = some 184 := p_g 641 183 184 M (by decide +kernel)
theorem ws_G2 (M : EM) : e_gf 642 [183] M = some 185 := p_g 642 183 185 M (by decide +kernel)
theorem ws_G3 (M : EM) : e_gf 643 [183] M = some 186 := p_g 643 183 186 M (by decide +kernel)
theorem ws_7 (M : EM) : e_gf 711 [8] M = some 183 := p_g 711 8 183 M (by decide +kernel)
theorem ws_r {u : Nat} {as : List Int} (h : as.getD 0 0 = 183) (hc : q_rc (e_vm u) = some 10) : e_rok u as = true := by
  unfold e_rok
  rw [hc]
  show decide (e_isO 10 (as.getD 0 0)) = true
  rw [h]
  exact decide_eq_true (by decide +kernel)
/-- one DAY more until the next washing -/
theorem ws_11 {K K1 K2 K3 : EM} {c0 s s1 r p nn x5 x6 u0 x8 x9 x10 x11 x12 um sd z8 d8 gv hA hB yv y5 mu wu mc wc z10 z11 : Int} (h0 : K 183 0 = nn) (q : u0 ≤ nn) (w1 : e_w (u0 - 1) = um) (w2 : e_w (um - c0) = sd) (w3 : e_w (sd * r) = z8) (hd8 : (if 50 < z8 then (50 : Int) else z8) = d8) (f6 : e_gf 518 [s] K = some s1) (tg : E_C 146 [s1, um] K = some (gv, K)) (wa : e_w (100 - d8) = hA) (wb : e_w (gv * hA) = hB) (wd : e_w (hB.tdiv 100) = yv) (we : e_w (x5 + yv) = y5) (t1 : E_C 146 [184, u0] K = some (mu, K)) (t2 : E_C 146 [185, u0] K = some (wu, K)) (t3 : E_C 146 [184, c0] K = some (mc, K)) (t4 : E_C 146 [185, c0] K = some (wc, K)) {v10 : Int} (wf : e_w (y5 + mu) = v10) (q9 : (u0 < nn ∧ e_w (v10 - p) = z10 ∧ e_w (wu + 1) = z11) ∨ (nn ≤ u0 ∧ e_w v10 = z10 ∧ e_w wu = z11)) (hx6 : x6 = 0 ∨ x6 = 1) (l1 : E_C 147 [184, c0, z10] K = some (0, K1)) (l2 : E_C 147 [185, c0, z11] K1 = some (0, K2)) (l3 : E_C 147 [186, c0, u0] K2 = some (0, K3)) : ∃ y9 y12, E_V 101 11 [183, c0, s, r, p, x5, x6, u0, x8, x9, x10, x11, x12] K = if x6 = 0 ∨ mc < z10 ∨ (z10 = mc ∧ z11 ≤ wc) then E_V 101 213 [183, c0, s, r, p, y5, 1, u0, d8, y9, z10, z11, y12] K3 else E_V 101 213 [183, c0, s, r, p, y5, 1, u0, d8, y9, z10, z11, y12] K := by
  have qn : ¬ nn < u0 := by omega
  rcases q9 with ⟨q1, z1, z2⟩ | ⟨q1, z1, z2⟩
  · have q1n : ¬ nn ≤ u0 := by omega
    refine ⟨1, if z10 ≤ mc then (if z10 = mc then (if z11 ≤ wc then 1 else 0) else 0) else 1, ?_⟩
    rcases hx6 with e6 | e6
    · subst e6
      rw [if_pos (Or.inl rfl)]
      rcases x_le z10 mc with ⟨b1, b1_n⟩ | ⟨b1, b1_n⟩
      · by_cases b2 : z10 = mc
        · rcases x_le z11 wc with ⟨b3, b3_n⟩ | ⟨b3, b3_n⟩
          · rw [if_pos b1, if_pos b2, if_pos b3]
            subst b2
            rw [E_V_eq]
            show e_tv E_C (E_V 101) e_t101_11 [183, c0, s, r, p, x5, 0, u0, x8, x9, x10, x11, x12] K = _
            unfold e_t101_11
            simp [zq_a, zq_b, zq_c, zq_d, zq_e, zq_f, zq_g, zq_h, zq_i, zq_j, zq_k, zq_l, zq_m, zq_n, zq_o, zq_p, zq_q, zq_r, zq_s, zq_t, zq_u, zq_v, zq_w, zq_x, zq_y, zq_z, zq_A, zq_B, zq_C, zq_D, zq_E, zq_F, zq_G, zq_H, zq_I, zq_J, zq_K, zq_L, ↓zq_M, ↓zq_N, ↓zq_O, ↓zq_P, ↓zq_Q, ↓zq_R, zq_S, zq_T, zq_U, zq_V, zq_W, zq_X, zq_Y, zq_Z, zq_0, zq_1, zq_2, zq_3, zq_4, zq_5, ↓zq_6, ↓zq_7, ↓zq_8, ↓zq_9, ↓zq_aa, zq_ab, zq_ac, zq_ad, zq_ae, zq_af, zq_ag, ↓zq_ah, ↓zq_ai, ↓zq_aj, zq_ak, ↓zq_al, ↓zq_am, e_b1, e_b2, x_o1, x_o2, ws_F0, ws_G1, ws_G2, ws_G3, h0, q, qn, q1, q1n, w1, w2, w3, hd8, f6, tg, wa, wb, wd, we, t1, t2, t3, t4, wf, z1, z2, l1, l2, l3, b1, b1_n, b3, b3_n]
          · rw [if_pos b1, if_pos b2, if_neg b3]
            subst b2
            rw [E_V_eq]
            show e_tv E_C (E_V 101) e_t101_11 [183, c0, s, r, p, x5, 0, u0, x8, x9, x10, x11, x12] K = _
            unfold e_t101_11
            simp [zq_a, zq_b, zq_c, zq_d, zq_e, zq_f, zq_g, zq_h, zq_i, zq_j, zq_k, zq_l, zq_m, zq_n, zq_o, zq_p, zq_q, zq_r, zq_s, zq_t, zq_u, zq_v, zq_w, zq_x, zq_y, zq_z, zq_A, zq_B, zq_C, zq_D, zq_E, zq_F, zq_G, zq_H, zq_I, zq_J, zq_K, zq_L, ↓zq_M, ↓zq_N, ↓zq_O, ↓zq_P, ↓zq_Q, ↓zq_R, zq_S, zq_T, zq_U, zq_V, zq_W, zq_X, zq_Y, zq_Z, zq_0, zq_1, zq_2, zq_3, zq_4, zq_5, ↓zq_6, ↓zq_7, ↓zq_8, ↓zq_9, ↓zq_aa, zq_ab, zq_ac, zq_ad, zq_ae, zq_af, zq_ag, ↓zq_ah, ↓zq_ai, ↓zq_aj, zq_ak, ↓zq_al, ↓zq_am, e_b1, e_b2, x_o1, x_o2, ws_F0, ws_G1, ws_G2, ws_G3, h0, q, qn, q1, q1n, w1, w2, w3, hd8, f6, tg, wa, wb, wd, we, t1, t2, t3, t4, wf, z1, z2, l1, l2, l3, b1, b1_n, b3, b3_n]
        · rw [if_pos b1, if_neg b2]
          rw [E_V_eq]
          show e_tv E_C (E_V 101) e_t101_11 [183, c0, s, r, p, x5, 0, u0, x8, x9, x10, x11, x12] K = _
          unfold e_t101_11
          simp [zq_a, zq_b, zq_c, zq_d, zq_e, zq_f, zq_g, zq_h, zq_i, zq_j, zq_k, zq_l, zq_m, zq_n, zq_o, zq_p, zq_q, zq_r, zq_s, zq_t, zq_u, zq_v, zq_w, zq_x, zq_y, zq_z, zq_A, zq_B, zq_C, zq_D, zq_E, zq_F, zq_G, zq_H, zq_I, zq_J, zq_K, zq_L, ↓zq_M, ↓zq_N, ↓zq_O, ↓zq_P, ↓zq_Q, ↓zq_R, zq_S, zq_T, zq_U, zq_V, zq_W, zq_X, zq_Y, zq_Z, zq_0, zq_1, zq_2, zq_3, zq_4, zq_5, ↓zq_6, ↓zq_7, ↓zq_8, ↓zq_9, ↓zq_aa, zq_ab, zq_ac, zq_ad, zq_ae, zq_af, zq_ag, ↓zq_ah, ↓zq_ai, ↓zq_aj, zq_ak, ↓zq_al, ↓zq_am, e_b1, e_b2, x_o1, x_o2, ws_F0, ws_G1, ws_G2, ws_G3, h0, q, qn, q1, q1n, w1, w2, w3, hd8, f6, tg, wa, wb, wd, we, t1, t2, t3, t4, wf, z1, z2, l1, l2, l3, b1, b1_n, b2]
      · rw [if_neg b1]
        rw [E_V_eq]
        show e_tv E_C (E_V 101) e_t101_11 [183, c0, s, r, p, x5, 0, u0, x8, x9, x10, x11, x12] K = _
        unfold e_t101_11
        simp [zq_a, zq_b, zq_c, zq_d, zq_e, zq_f, zq_g, zq_h, zq_i, zq_j, zq_k, zq_l, zq_m, zq_n, zq_o, zq_p, zq_q, zq_r, zq_s, zq_t, zq_u, zq_v, zq_w, zq_x, zq_y, zq_z, zq_A, zq_B, zq_C, zq_D, zq_E, zq_F, zq_G, zq_H, zq_I, zq_J, zq_K, zq_L, ↓zq_M, ↓zq_N, ↓zq_O, ↓zq_P, ↓zq_Q, ↓zq_R, zq_S, zq_T, zq_U, zq_V, zq_W, zq_X, zq_Y, zq_Z, zq_0, zq_1, zq_2, zq_3, zq_4, zq_5, ↓zq_6, ↓zq_7, ↓zq_8, ↓zq_9, ↓zq_aa, zq_ab, zq_ac, zq_ad, zq_ae, zq_af, zq_ag, ↓zq_ah, ↓zq_ai, ↓zq_aj, zq_ak, ↓zq_al, ↓zq_am, e_b1, e_b2, x_o1, x_o2, ws_F0, ws_G1, ws_G2, ws_G3, h0, q, qn, q1, q1n, w1, w2, w3, hd8, f6, tg, wa, wb, wd, we, t1, t2, t3, t4, wf, z1, z2, l1, l2, l3, b1, b1_n]
    · subst e6
      rcases x_le z10 mc with ⟨b1, b1_n⟩ | ⟨b1, b1_n⟩
      · by_cases b2 : z10 = mc
        · rcases x_le z11 wc with ⟨b3, b3_n⟩ | ⟨b3, b3_n⟩
          · rw [if_pos b1, if_pos b2, if_pos b3, if_pos (Or.inr (Or.inr ⟨b2, b3⟩))]
            subst b2
            rw [E_V_eq]
            show e_tv E_C (E_V 101) e_t101_11 [183, c0, s, r, p, x5, 1, u0, x8, x9, x10, x11, x12] K = _
            unfold e_t101_11
            simp [zq_a, zq_b, zq_c, zq_d, zq_e, zq_f, zq_g, zq_h, zq_i, zq_j, zq_k, zq_l, zq_m, zq_n, zq_o, zq_p, zq_q, zq_r, zq_s, zq_t, zq_u, zq_v, zq_w, zq_x, zq_y, zq_z, zq_A, zq_B, zq_C, zq_D, zq_E, zq_F, zq_G, zq_H, zq_I, zq_J, zq_K, zq_L, ↓zq_M, ↓zq_N, ↓zq_O, ↓zq_P, ↓zq_Q, ↓zq_R, zq_S, zq_T, zq_U, zq_V, zq_W, zq_X, zq_Y, zq_Z, zq_0, zq_1, zq_2, zq_3, zq_4, zq_5, ↓zq_6, ↓zq_7, ↓zq_8, ↓zq_9, ↓zq_aa, zq_ab, zq_ac, zq_ad, zq_ae, zq_af, zq_ag, ↓zq_ah, ↓zq_ai, ↓zq_aj, zq_ak, ↓zq_al, ↓zq_am, e_b1, e_b2, x_o1, x_o2, ws_F0, ws_G1, ws_G2, ws_G3, h0, q, qn, q1, q1n, w1, w2, w3, hd8, f6, tg, wa, wb, wd, we, t1, t2, t3, t4, wf, z1, z2, l1, l2, l3, b1, b1_n, b3, b3_n]
          · rw [if_pos b1, if_pos b2, if_neg b3, if_neg (by omega)]
            subst b2
            rw [E_V_eq]
            show e_tv E_C (E_V 101) e_t101_11 [183, c0, s, r, p, x5, 1, u0, x8, x9, x10, x11, x12] K = _
            unfold e_t101_11
            simp [zq_a, zq_b, zq_c, zq_d, zq_e, zq_f, zq_g, zq_h, zq_i, zq_j, zq_k, zq_l, zq_m, zq_n, zq_o, zq_p, zq_q, zq_r, zq_s, zq_t, zq_u, zq_v, zq_w, zq_x, zq_y, zq_z, zq_A, zq_B, zq_C, zq_D, zq_E, zq_F, zq_G, zq_H, zq_I, zq_J, zq_K, zq_L, ↓zq_M, ↓zq_N, ↓zq_O, ↓zq_P, ↓zq_Q, ↓zq_R, zq_S, zq_T, zq_U, zq_V, zq_W, zq_X, zq_Y, zq_Z, zq_0, zq_1, zq_2, zq_3, zq_4, zq_5, ↓zq_6, ↓zq_7, ↓zq_8, ↓zq_9, ↓zq_aa, zq_ab, zq_ac, zq_ad, zq_ae, zq_af, zq_ag, ↓zq_ah, ↓zq_ai, ↓zq_aj, zq_ak, ↓zq_al, ↓zq_am, e_b1, e_b2, x_o1, x_o2, ws_F0, ws_G1, ws_G2, ws_G3, h0, q, qn, q1, q1n, w1, w2, w3, hd8, f6, tg, wa, wb, wd, we, t1, t2, t3, t4, wf, z1, z2, b1, b1_n, b3, b3_n]
        · rw [if_pos b1, if_neg b2, if_neg (by omega)]
          rw [E_V_eq]
          show e_tv E_C (E_V 101) e_t101_11 [183, c0, s, r, p, x5, 1, u0, x8, x9, x10, x11, x12] K = _
          unfold e_t101_11
          simp [zq_a, zq_b, zq_c, zq_d, zq_e, zq_f, zq_g, zq_h, zq_i, zq_j, zq_k, zq_l, zq_m, zq_n, zq_o, zq_p, zq_q, zq_r, zq_s, zq_t, zq_u, zq_v, zq_w, zq_x, zq_y, zq_z, zq_A, zq_B, zq_C, zq_D, zq_E, zq_F, zq_G, zq_H, zq_I, zq_J, zq_K, zq_L, ↓zq_M, ↓zq_N, ↓zq_O, ↓zq_P, ↓zq_Q, ↓zq_R, zq_S, zq_T, zq_U, zq_V, zq_W, zq_X, zq_Y, zq_Z, zq_0, zq_1, zq_2, zq_3, zq_4, zq_5, ↓zq_6, ↓zq_7, ↓zq_8, ↓zq_9, ↓zq_aa, zq_ab, zq_ac, zq_ad, zq_ae, zq_af, zq_ag, ↓zq_ah, ↓zq_ai, ↓zq_aj, zq_ak, ↓zq_al, ↓zq_am, e_b1, e_b2, x_o1, x_o2, ws_F0, ws_G1, ws_G2, ws_G3, h0, q, qn, q1, q1n, w1, w2, w3, hd8, f6, tg, wa, wb, wd, we, t1, t2, t3, t4, wf, z1, z2, b1, b1_n, b2]
      · rw [if_neg b1, if_pos (by omega)]
        rw [E_V_eq]
        show e_tv E_C (E_V 101) e_t101_11 [183, c0, s, r, p, x5, 1, u0, x8, x9, x10, x11, x12] K = _
        unfold e_t101_11
        simp [zq_a, zq_b, zq_c, zq_d, zq_e, zq_f, zq_g, zq_h, zq_i, zq_j, zq_k, zq_l, zq_m, zq_n, zq_o, zq_p, zq_q, zq_r, zq_s, zq_t, zq_u, zq_v, zq_w, zq_x, zq_y, zq_z, zq_A, zq_B, zq_C, zq_D, zq_E, zq_F, zq_G, zq_H, zq_I, zq_J, zq_K, zq_L, ↓zq_M, ↓zq_N, ↓zq_O, ↓zq_P, ↓zq_Q, ↓zq_R, zq_S, zq_T, zq_U, zq_V, zq_W, zq_X, zq_Y, zq_Z, zq_0, zq_1, zq_2, zq_3, zq_4, zq_5, ↓zq_6, ↓zq_7, ↓zq_8, ↓zq_9, ↓zq_aa, zq_ab, zq_ac, zq_ad, zq_ae, zq_af, zq_ag, ↓zq_ah, ↓zq_ai, ↓zq_aj, zq_ak, ↓zq_al, ↓zq_am, e_b1, e_b2, x_o1, x_o2, ws_F0, ws_G1, ws_G2, ws_G3, h0, q, qn, q1, q1n, w1, w2, w3, hd8, f6, tg, wa, wb, wd, we, t1, t2, t3, t4, wf, z1, z2, l1, l2, l3, b1, b1_n]
  · have q1n : ¬ u0 < nn := by omega
    refine ⟨0, if z10 ≤ mc then (if z10 = mc then (if z11 ≤ wc then 1 else 0) else 0) else 1, ?_⟩
    rcases hx6 with e6 | e6
    · subst e6
      rw [if_pos (Or.inl rfl)]
      rcases x_le z10 mc with ⟨b1, b1_n⟩ | ⟨b1, b1_n⟩
      · by_cases b2 : z10 = mc
        · rcases x_le z11 wc with ⟨b3, b3_n⟩ | ⟨b3, b3_n⟩
          · rw [if_pos b1, if_pos b2, if_pos b3]
            subst b2
            rw [E_V_eq]
            show e_tv E_C (E_V 101) e_t101_11 [183, c0, s, r, p, x5, 0, u0, x8, x9, x10, x11, x12] K = _
            unfold e_t101_11
            simp [zq_a, zq_b, zq_c, zq_d, zq_e, zq_f, zq_g, zq_h, zq_i, zq_j, zq_k, zq_l, zq_m, zq_n, zq_o, zq_p, zq_q, zq_r, zq_s, zq_t, zq_u, zq_v, zq_w, zq_x, zq_y, zq_z, zq_A, zq_B, zq_C, zq_D, zq_E, zq_F, zq_G, zq_H, zq_I, zq_J, zq_K, zq_L, ↓zq_M, ↓zq_N, ↓zq_O, ↓zq_P, ↓zq_Q, ↓zq_R, zq_S, zq_T, zq_U, zq_V, zq_W, zq_X, zq_Y, zq_Z, zq_0, zq_1, zq_2, zq_3, zq_4, zq_5, ↓zq_6, ↓zq_7, ↓zq_8, ↓zq_9, ↓zq_aa, zq_ab, zq_ac, zq_ad, zq_ae, zq_af, zq_ag, ↓zq_ah, ↓zq_ai, ↓zq_aj, zq_ak, ↓zq_al, ↓zq_am, e_b1, e_b2, x_o1, x_o2, ws_F0, ws_G1, ws_G2, ws_G3, h0, q, qn, q1, q1n, w1, w2, w3, hd8, f6, tg, wa, wb, wd, we, t1, t2, t3, t4, wf, z1, z2, l1, l2, l3, b1, b1_n, b3, b3_n]
          · rw [if_pos b1, if_pos b2, if_neg b3]
            subst b2
            rw [E_V_eq]
            show e_tv E_C (E_V 101) e_t101_11 [183, c0, s, r, p, x5, 0, u0, x8, x9, x10, x11, x12] K = _
            unfold e_t101_11
            simp [zq_a, zq_b, zq_c, zq_d, zq_e, zq_f, zq_g, zq_h, zq_i, zq_j, zq_k, zq_l, zq_m, zq_n, zq_o, zq_p, zq_q, zq_r, zq_s, zq_t, zq_u, zq_v, zq_w, zq_x, zq_y, zq_z, zq_A, zq_B, zq_C, zq_D, zq_E, zq_F, zq_G, zq_H, zq_I, zq_J, zq_K, zq_L, ↓zq_M, ↓zq_N, ↓zq_O, ↓zq_P, ↓zq_Q, ↓zq_R, zq_S, zq_T, zq_U, zq_V, zq_W, zq_X, zq_Y, zq_Z, zq_0, zq_1, zq_2, zq_3, zq_4, zq_5, ↓zq_6, ↓zq_7, ↓zq_8, ↓zq_9, ↓zq_aa, zq_ab, zq_ac, zq_ad, zq_ae, zq_af, zq_ag, ↓zq_ah, ↓zq_ai, ↓zq_aj, zq_ak, ↓zq_al, ↓zq_am, e_b1, e_b2, x_o1, x_o2, ws_F0, ws_G1, ws_G2, ws_G3, h0, q, qn, q1, q1n, w1, w2, w3, hd8, f6, tg, wa, wb, wd, we, t1, t2, t3, t4, wf, z1, z2, l1, l2, l3, b1, b1_n, b3, b3_n]
        · rw [if_pos b1, if_neg b2]
          rw [E_V_eq]
          show e_tv E_C (E_V 101) e_t101_11 [183, c0, s, r, p, x5, 0, u0, x8, x9, x10, x11, x12] K = _
          unfold e_t101_11
          simp [zq_a, zq_b, zq_c, zq_d, zq_e, zq_f, zq_g, zq_h, zq_i, zq_j, zq_k, zq_l, zq_m, zq_n, zq_o, zq_p, zq_q, zq_r, zq_s, zq_t, zq_u, zq_v, zq_w, zq_x, zq_y, zq_z, zq_A, zq_B, zq_C, zq_D, zq_E, zq_F, zq_G, zq_H, zq_I, zq_J, zq_K, zq_L, ↓zq_M, ↓zq_N, ↓zq_O, ↓zq_P, ↓zq_Q, ↓zq_R, zq_S, zq_T, zq_U, zq_V, zq_W, zq_X, zq_Y, zq_Z, zq_0, zq_1, zq_2, zq_3, zq_4, zq_5, ↓zq_6, ↓zq_7, ↓zq_8, ↓zq_9, ↓zq_aa, zq_ab, zq_ac, zq_ad, zq_ae, zq_af, zq_ag, ↓zq_ah, ↓zq_ai, ↓zq_aj, zq_ak, ↓zq_al, ↓zq_am, e_b1, e_b2, x_o1, x_o2, ws_F0, ws_G1, ws_G2, ws_G3, h0, q, qn, q1, q1n, w1, w2, w3, hd8, f6, tg, wa, wb, wd, we, t1, t2, t3, t4, wf, z1, z2, l1, l2, l3, b1, b1_n, b2]
      · rw [if_neg b1]
        rw [E_V_eq]
        show e_tv E_C (E_V 101) e_t101_11 [183, c0, s, r, p, x5, 0, u0, x8, x9, x10, x11, x12] K = _
        unfold e_t101_11
        simp [zq_a, zq_b, zq_c, zq_d, zq_e, zq_f, zq_g, zq_h, zq_i, zq_j, zq_k, zq_l, zq_m, zq_n, zq_o, zq_p, zq_q, zq_r, zq_s, zq_t, zq_u, zq_v, zq_w, zq_x, zq_y, zq_z, zq_A, zq_B, zq_C, zq_D, zq_E, zq_F, zq_G, zq_H, zq_I, zq_J, zq_K, zq_L, ↓zq_M, ↓zq_N, ↓zq_O, ↓zq_P, ↓zq_Q, ↓zq_R, zq_S, zq_T, zq_U, zq_V, zq_W, zq_X, zq_Y, zq_Z, zq_0, zq_1, zq_2, zq_3, zq_4, zq_5, ↓zq_6, ↓zq_7, ↓zq_8, ↓zq_9, ↓zq_aa, zq_ab, zq_ac, zq_ad, zq_ae, zq_af, zq_ag, ↓zq_ah, ↓zq_ai, ↓zq_aj, zq_ak, ↓zq_al, ↓zq_am, e_b1, e_b2, x_o1, x_o2, ws_F0, ws_G1, ws_G2, ws_G3, h0, q, qn, q1, q1n, w1, w2, w3, hd8, f6, tg, wa, wb, wd, we, t1, t2, t3, t4, wf, z1, z2, l1, l2, l3, b1, b1_n]
    · subst e6
      rcases x_le z10 mc with ⟨b1, b1_n⟩ | ⟨b1, b1_n⟩
      · by_cases b2 : z10 = mc
        · rcases x_le z11 wc with ⟨b3, b3_n⟩ | ⟨b3, b3_n⟩
          · rw [if_pos b1, if_pos b2, if_pos b3, if_pos (Or.inr (Or.inr ⟨b2, b3⟩))]
            subst b2
            rw [E_V_eq]
            show e_tv E_C (E_V 101) e_t101_11 [183, c0, s, r, p, x5, 1, u0, x8, x9, x10, x11, x12] K = _
            unfold e_t101_11
            simp [zq_a, zq_b, zq_c, zq_d, zq_e, zq_f, zq_g, zq_h, zq_i, zq_j, zq_k, zq_l, zq_m, zq_n, zq_o, zq_p, zq_q, zq_r, zq_s, zq_t, zq_u, zq_v, zq_w, zq_x, zq_y, zq_z, zq_A, zq_B, zq_C, zq_D, zq_E, zq_F, zq_G, zq_H, zq_I, zq_J, zq_K, zq_L, ↓zq_M, ↓zq_N, ↓zq_O, ↓zq_P, ↓zq_Q, ↓zq_R, zq_S, zq_T, zq_U, zq_V, zq_W, zq_X, zq_Y, zq_Z, zq_0, zq_1, zq_2, zq_3, zq_4, zq_5, ↓zq_6, ↓zq_7, ↓zq_8, ↓zq_9, ↓zq_aa, zq_ab, zq_ac, zq_ad, zq_ae, zq_af, zq_ag, ↓zq_ah, ↓zq_ai, ↓zq_aj, zq_ak, ↓zq_al, ↓zq_am, e_b1, e_b2, x_o1, x_o2, ws_F0, ws_G1, ws_G2, ws_G3, h0, q, qn, q1, q1n, w1, w2, w3, hd8, f6, tg, wa, wb, wd, we, t1, t2, t3, t4, wf, z1, z2, l1, l2, l3, b1, b1_n, b3, b3_n]
          · rw [if_pos b1, if_pos b2, if_neg b3, if_neg (by omega)]
            subst b2
            rw [E_V_eq]
            show e_tv E_C (E_V 101) e_t101_11 [183, c0, s, r, p, x5, 1, u0, x8, x9, x10, x11, x12] K = _
            unfold e_t101_11
            simp [zq_a, zq_b, zq_c, zq_d, zq_e, zq_f, zq_g, zq_h, zq_i, zq_j, zq_k, zq_l, zq_m, zq_n, zq_o, zq_p, zq_q, zq_r, zq_s, zq_t, zq_u, zq_v, zq_w, zq_x, zq_y, zq_z, zq_A, zq_B, zq_C, zq_D, zq_E, zq_F, zq_G, zq_H, zq_I, zq_J, zq_K, zq_L, ↓zq_M, ↓zq_N, ↓zq_O, ↓zq_P, ↓zq_Q, ↓zq_R, zq_S, zq_T, zq_U, zq_V, zq_W, zq_X, zq_Y, zq_Z, zq_0, zq_1, zq_2, zq_3, zq_4, zq_5, ↓zq_6, ↓zq_7, ↓zq_8, ↓zq_9, ↓zq_aa, zq_ab, zq_ac, zq_ad, zq_ae, zq_af, zq_ag, ↓zq_ah, ↓zq_ai, ↓zq_aj, zq_ak, ↓zq_al, ↓zq_am, e_b1, e_b2, x_o1, x_o2, ws_F0, ws_G1, ws_G2, ws_G3, h0, q, qn, q1, q1n, w1, w2, w3, hd8, f6, tg, wa, wb, wd, we, t1, t2, t3, t4, wf, z1, z2, b1, b1_n, b3, b3_n]
        · rw [if_pos b1, if_neg b2, if_neg (by omega)]
          rw [E_V_eq]
          show e_tv E_C (E_V 101) e_t101_11 [183, c0, s, r, p, x5, 1, u0, x8, x9, x10, x11, x12] K = _
          unfold e_t101_11
          simp [zq_a, zq_b, zq_c, zq_d, zq_e, zq_f, zq_g, zq_h, zq_i, zq_j, zq_k, zq_l, zq_m, zq_n, zq_o, zq_p, zq_q, zq_r, zq_s, zq_t, zq_u, zq_v, zq_w, zq_x, zq_y, zq_z, zq_A, zq_B, zq_C, zq_D, zq_E, zq_F, zq_G, zq_H, zq_I, zq_J, zq_K, zq_L, ↓zq_M, ↓zq_N, ↓zq_O, ↓zq_P, ↓zq_Q, ↓zq_R, zq_S, zq_T, zq_U, zq_V, zq_W, zq_X, zq_Y, zq_Z, zq_0, zq_1, zq_2, zq_3, zq_4, zq_5, ↓zq_6, ↓zq_7, ↓zq_8, ↓zq_9, ↓zq_aa, zq_ab, zq_ac, zq_ad, zq_ae, zq_af, zq_ag, ↓zq_ah, ↓zq_ai, ↓zq_aj, zq_ak, ↓zq_al, ↓zq_am, e_b1, e_b2, x_o1, x_o2, ws_F0, ws_G1, ws_G2, ws_G3, h0, q, qn, q1, q1n, w1, w2, w3, hd8, f6, tg, wa, wb, wd, we, t1, t2, t3, t4, wf, z1, z2, b1, b1_n, b2]
      · rw [if_neg b1, if_pos (by omega)]
        rw [E_V_eq]
        show e_tv E_C (E_V 101) e_t101_11 [183, c0, s, r, p, x5, 1, u0, x8, x9, x10, x11, x12] K = _
        unfold e_t101_11
        simp [zq_a, zq_b, zq_c, zq_d, zq_e, zq_f, zq_g, zq_h, zq_i, zq_j, zq_k, zq_l, zq_m, zq_n, zq_o, zq_p, zq_q, zq_r, zq_s, zq_t, zq_u, zq_v, zq_w, zq_x, zq_y, zq_z, zq_A, zq_B, zq_C, zq_D, zq_E, zq_F, zq_G, zq_H, zq_I, zq_J, zq_K, zq_L, ↓zq_M, ↓zq_N, ↓zq_O, ↓zq_P, ↓zq_Q, ↓zq_R, zq_S, zq_T, zq_U, zq_V, zq_W, zq_X, zq_Y, zq_Z, zq_0, zq_1, zq_2, zq_3, zq_4, zq_5, ↓zq_6, ↓zq_7, ↓zq_8, ↓zq_9, ↓zq_aa, zq_ab, zq_ac, zq_ad, zq_ae, zq_af, zq_ag, ↓zq_ah, ↓zq_ai, ↓zq_aj, zq_ak, ↓zq_al, ↓zq_am, e_b1, e_b2, x_o1, x_o2, ws_F0, ws_G1, ws_G2, ws_G3, h0, q, qn, q1, q1n, w1, w2, w3, hd8, f6, tg, wa, wb, wd, we, t1, t2, t3, t4, wf, z1, z2, l1, l2, l3, b1, b1_n]
end
section
/-! washing days planned by the class: the loops -/
section WSL
variable {K0 : EM} {c n : Nat} {s r p : Int} {G M W : Nat → Int}
def wk_m (G : Nat → Int) (r : Int) (n : Nat) (p : Int) (M : Nat → Int) (c b : Nat) : Int := wh_A (wh_y G r) c (b - c) + (if b < n then M b - p else 0)
def wk_w (n : Nat) (W : Nat → Int) (b : Nat) : Int := if b < n then W b + 1 else 0
theorem wk_F {b : Nat} : wh_F (wh_y G r) n p M W c b = 64 * wk_m G r n p M c b - wk_w n W b := by
  unfold wh_F wh_T wk_m wk_w
  by_cases q : b = b ∧ b < n
  · rw [if_pos q.2, if_pos q.2, if_pos q.2]; omega
  · rw [if_neg (fun h => q ⟨rfl, h⟩), if_neg (fun h => q ⟨rfl, h⟩), if_neg (fun h => q ⟨rfl, h⟩)]; omega
/-- the best of the DAYS gone through -/
def ws_S (G : Nat → Int) (r : Int) (n : Nat) (p : Int) (M W : Nat → Int) (c : Nat) (K : EM) (u : Nat) : Prop := ∃ b, (c < b ∧ b < u) ∧ K 184 c = wk_m G r n p M c b ∧ K 185 c = wk_w n W b ∧ K 186 c = (b : Int) ∧ ∀ v, c < v → v < u → wh_F (wh_y G r) n p M W c v ≤ wh_F (wh_y G r) n p M W c b ∧ (b < v → wh_F (wh_y G r) n p M W c v < wh_F (wh_y G r) n p M W c b)
def ws_O (K0 : EM) (c n : Nat) (M W : Nat → Int) : Prop := ∀ u, c < u → u ≤ n → K0 184 u = M u ∧ K0 185 u = W u ∧ (-9999 * ((n : Int) - (u : Int)) ≤ M u ∧ M u ≤ 999 * ((n : Int) - (u : Int))) ∧ 0 ≤ W u ∧ W u ≤ (n : Int) - (u : Int)
theorem wk_b (hn : n ≤ 30) (hr : 0 ≤ r ∧ r ≤ 20) (hp : 0 ≤ p ∧ p ≤ 9999) (hG : ∀ k, k < n → 0 ≤ G k ∧ G k ≤ 999) (hO : ws_O K0 c n M W) {b : Nat} (hb : c < b) (hbn : b ≤ n) : (-9999 * ((n : Int) - (c : Int)) ≤ wk_m G r n p M c b ∧ wk_m G r n p M c b ≤ 999 * ((n : Int) - (c : Int))) ∧ 0 ≤ wk_w n W b ∧ wk_w n W b ≤ (n : Int) - (c : Int) := by
  have a := wh_Ab (y := wh_y G r) (c := c) (b - c) (fun i hi => wh_yb (hG _ (by omega)) hr (by omega))
  obtain ⟨-, -, o1, o2⟩ := hO b hb hbn
  unfold wk_m wk_w
  by_cases q : b = n
  · rw [if_neg (by omega), if_neg (by omega)]
    omega
  · rw [if_pos (by omega), if_pos (by omega)]
    omega
theorem ws_101l (hc : c < n) (hn : n ≤ 30) (hh : s ∈ a_SH) (hr : 0 ≤ r ∧ r ≤ 20) (hp : 0 ≤ p ∧ p ≤ 9999) (hK : ∀ k, k < n → K0 (s + 1).toNat k = G k) (hG : ∀ k, k < n → 0 ≤ G k ∧ G k ≤ 999) (hO : ws_O K0 c n M W) (h0 : K0 183 0 = n) : ∀ (t u : Nat) (x5 x6 x7 x8 x9 x10 x11 x12 : Int) (K : EM), x7 = u → u + t = n + 1 → c + 1 ≤ u → x5 = wh_A (wh_y G r) c (u - 1 - c) → (∀ id k, ¬ (184 ≤ id ∧ id ≤ 186 ∧ k = c) → K id k = K0 id k) → ((x6 = 0 ∧ u = c + 1) ∨ (x6 = 1 ∧ ws_S G r n p M W c K u)) → ∃ K', E_V 101 11 [183, (c : Int), s, r, p, x5, x6, x7, x8, x9, x10, x11, x12] K = some (0, K') ∧ (∀ id k, ¬ (184 ≤ id ∧ id ≤ 186 ∧ k = c) → K' id k = K0 id k) ∧ (t = 0 ∧ u = c + 1 ∨ ws_S G r n p M W c K' (n + 1)) := by
  obtain ⟨g1, g2, g3, g4, g5, g6, g7⟩ := w_sh hh
  have f6 : ∀ K, e_gf 518 [s] K = some (s + 1) := fun K => (c_gr g1 (by decide +kernel)).trans (congrArg some g5)
  intro t
  induction t with
  | zero =>
    intro u x5 x6 x7 x8 x9 x10 x11 x12 K h7 hu hcu h5 hf hst
    refine ⟨K, ?_, hf, ?_⟩
    · have k0 : K 183 0 = (n : Int) := (hf _ _ (by omega)).trans h0
      have q : ¬ (x7 ≤ (n : Int)) := by omega
      have qn : (n : Int) < x7 := by omega
      clear hst hf h5 hO hG hK
      generalize (n : Int) = nn at *
      rw [E_V_eq]
      show e_tv E_C (E_V 101) e_t101_11 [183, (c : Int), s, r, p, x5, x6, x7, x8, x9, x10, x11, x12] K = _
      unfold e_t101_11
      simp [zq_a, zq_b, zq_c, zq_d, zq_e, zq_f, zq_g, zq_h, zq_i, zq_j, zq_k, zq_l, zq_m, zq_n, zq_o, zq_p, zq_q, zq_r, zq_s, zq_t, zq_u, zq_v, zq_w, zq_x, zq_y, zq_z, zq_A, zq_B, zq_C, zq_D, zq_E, zq_F, zq_G, zq_H, zq_I, zq_J, zq_K, zq_L, ↓zq_M, ↓zq_N, ↓zq_O, ↓zq_P, ↓zq_Q, ↓zq_R, zq_S, zq_T, zq_U, zq_V, zq_W, zq_X, zq_Y, zq_Z, zq_0, zq_1, zq_2, zq_3, zq_4, zq_5, ↓zq_6, ↓zq_7, ↓zq_8, ↓zq_9, ↓zq_aa, zq_ab, zq_ac, zq_ad, zq_ae, zq_af, zq_ag, ↓zq_ah, ↓zq_ai, ↓zq_aj, zq_ak, ↓zq_al, ↓zq_am, e_b1, e_b2, x_o1, x_o2, ws_F0, k0, q, qn]
    · rcases hst with h | h
      · exact Or.inl ⟨rfl, h.2⟩
      · have e : u = n + 1 := by omega
        rw [← e]
        exact Or.inr h.2
  | succ t ih =>
    intro u x5 x6 x7 x8 x9 x10 x11 x12 K h7 hu hcu h5 hf hst
    have un : u ≤ n := by omega
    obtain ⟨j, hj⟩ : ∃ j, u = c + 1 + j := ⟨u - (c + 1), by omega⟩
    have uj : u - 1 - c = j := by omega
    rw [uj] at h5
    obtain ⟨⟨z0, z1⟩, d1, d2⟩ := wh_d (s := j) hr (by omega)
    have gq := hG (u - 1) (by omega)
    obtain ⟨⟨q0, q1⟩, q2, q3⟩ := wh_q gq ⟨d1, d2⟩
    obtain ⟨z8, hz8⟩ : ∃ z8, r * (j : Int) = z8 := ⟨_, rfl⟩
    rw [hz8] at z0 z1 d1 d2 q0 q1 q2 q3
    obtain ⟨d8, hd8⟩ : ∃ d8 : Int, (if 50 < z8 then (50 : Int) else z8) = d8 := ⟨_, rfl⟩
    rw [hd8] at d1 d2 q0 q1 q2 q3
    obtain ⟨gv, hgv⟩ : ∃ gv, G (u - 1) = gv := ⟨_, rfl⟩
    rw [hgv] at gq q0 q1 q2 q3
    have ey : wh_y G r (u - 1) j = (gv * (100 - d8)).tdiv 100 := by
      unfold wh_y
      rw [hz8, hd8, hgv]
    have eA : wh_A (wh_y G r) c (u - c) = x5 + (gv * (100 - d8)).tdiv 100 := by
      rw [show u - c = j + 1 by omega]
      show wh_A (wh_y G r) c j + wh_y G r (c + j) j = _
      rw [show c + j = u - 1 by omega, ey, h5]
    have Ab := wh_Ab (y := wh_y G r) (c := c) (u - c) (fun i hi => wh_yb (hG _ (by omega)) hr (by omega))
    obtain ⟨o1, o2, o3, o4⟩ := hO u (by omega) un
    have mb := wk_b hn hr hp hG hO (show c < u by omega) un
    have k0 : K 183 0 = (n : Int) := (hf _ _ (by omega)).trans h0
    have w1 : e_w (x7 - 1) = ((u - 1 : Nat) : Int) := (a_w_id (by omega) (by omega)).trans (by omega)
    have w2 : e_w (((u - 1 : Nat) : Int) - (c : Int)) = (j : Int) := (a_w_id (by omega) (by omega)).trans (by omega)
    have w3 : e_w ((j : Int) * r) = z8 := by rw [Int.mul_comm, hz8]; exact a_w_id (by omega) (by omega)
    have tg : E_C 146 [s + 1, ((u - 1 : Nat) : Int)] K = some (gv, K) := (w_atN (a := s + 1) (n := 120) ⟨g2, g3, g4⟩ (j := u - 1) rfl (by omega) K).trans (by rw [hf _ _ (by omega), hK _ (by omega), hgv])
    have wa : e_w (100 - d8) = 100 - d8 := a_w_id (by omega) (by omega)
    have wb : e_w (gv * (100 - d8)) = gv * (100 - d8) := a_w_id (by omega) (by omega)
    have wd : e_w ((gv * (100 - d8)).tdiv 100) = (gv * (100 - d8)).tdiv 100 := a_w_id (by omega) (by omega)
    have we : e_w (x5 + (gv * (100 - d8)).tdiv 100) = wh_A (wh_y G r) c (u - c) := by
      rw [← eA]
      exact a_w_id (by omega) (by omega)
    have t1 : E_C 146 [184, x7] K = some (M u, K) := (w_atN (a := 184) (n := 31) (by decide +kernel) (j := u) h7 (by omega) K).trans (by rw [show (184 : Int).toNat = 184 from rfl, hf _ _ (by omega), o1])
    have t2 : E_C 146 [185, x7] K = some (W u, K) := (w_atN (a := 185) (n := 31) (by decide +kernel) (j := u) h7 (by omega) K).trans (by rw [show (185 : Int).toNat = 185 from rfl, hf _ _ (by omega), o2])
    have t3 : E_C 146 [184, (c : Int)] K = some (K 184 c, K) := w_atN (a := 184) (n := 31) (by decide +kernel) (j := c) rfl (by omega) K
    have t4 : E_C 146 [185, (c : Int)] K = some (K 185 c, K) := w_atN (a := 185) (n := 31) (by decide +kernel) (j := c) rfl (by omega) K
    have wf : e_w (wh_A (wh_y G r) c (u - c) + M u) = wh_A (wh_y G r) c (u - c) + M u := a_w_id (by omega) (by omega)
    obtain ⟨z10, hz10⟩ : ∃ z, wk_m G r n p M c u = z := ⟨_, rfl⟩
    obtain ⟨z11, hz11⟩ : ∃ z, wk_w n W u = z := ⟨_, rfl⟩
    rw [hz10, hz11] at mb
    have q9 : (x7 < (n : Int) ∧ e_w (wh_A (wh_y G r) c (u - c) + M u - p) = z10 ∧ e_w (W u + 1) = z11) ∨ ((n : Int) ≤ x7 ∧ e_w (wh_A (wh_y G r) c (u - c) + M u) = z10 ∧ e_w (W u) = z11) := by
      unfold wk_m at hz10
      unfold wk_w at hz11
      by_cases e : u = n
      · rw [if_neg (by omega)] at hz10 hz11
        refine Or.inr ⟨by omega, ?_, ?_⟩
        · rw [wf]; omega
        · exact (a_w_id (by omega) (by omega)).trans (by omega)
      · rw [if_pos (by omega)] at hz10 hz11
        refine Or.inl ⟨by omega, ?_, ?_⟩
        · exact (a_w_id (by omega) (by omega)).trans (by omega)
        · exact (a_w_id (by omega) (by omega)).trans (by omega)
    have l1 : E_C 147 [184, (c : Int), z10] K = some (0, e_up K 184 c z10) := w_layN (a := 184) (n := 31) (by decide +kernel) (j := c) rfl (by omega) _ K
    have l2 : E_C 147 [185, (c : Int), z11] (e_up K 184 c z10) = some (0, e_up (e_up K 184 c z10) 185 c z11) := w_layN (a := 185) (n := 31) (by decide +kernel) (j := c) rfl (by omega) _ _
    have l3 : E_C 147 [186, (c : Int), x7] (e_up (e_up K 184 c z10) 185 c z11) = some (0, e_up (e_up (e_up K 184 c z10) 185 c z11) 186 c x7) := w_layN (a := 186) (n := 31) (by decide +kernel) (j := c) rfl (by omega) _ _
    have h6 : x6 = 0 ∨ x6 = 1 := hst.elim (fun h => Or.inl h.1) (fun h => Or.inr h.1)
    obtain ⟨y9, y12, hk⟩ := ws_11 (x8 := x8) (x9 := x9) (x10 := x10) (x11 := x11) (x12 := x12) k0 (show x7 ≤ (n : Int) by omega) w1 w2 w3 hd8 (f6 K) tg wa wb wd we t1 t2 t3 t4 wf q9 h6 l1 l2 l3
    have Fu : wh_F (wh_y G r) n p M W c u = 64 * z10 - z11 := by rw [wk_F, hz10, hz11]
    have w7 : e_w (x7 + 1) = x7 + 1 := a_w_id (by omega) (by omega)
    have j213 : ∀ y5 z9 z10 z11 z12 K, E_V 101 213 [183, (c : Int), s, r, p, y5, 1, x7, d8, z9, z10, z11, z12] K = E_V 101 11 [183, (c : Int), s, r, p, y5, 1, x7 + 1, d8, z9, z10, z11, z12] K := fun y5 z9 z10 z11 z12 K => by
      rw [E_V_eq]
      show e_tv E_C (E_V 101) e_t101_213 [183, (c : Int), s, r, p, y5, 1, x7, d8, z9, z10, z11, z12] K = _
      unfold e_t101_213
      simp [zq_a, zq_b, zq_c, zq_d, zq_e, zq_f, zq_g, zq_h, zq_i, zq_j, zq_k, zq_l, zq_m, zq_n, zq_o, zq_p, zq_q, zq_r, zq_s, zq_t, zq_u, zq_v, zq_w, zq_x, zq_y, zq_z, zq_A, zq_B, zq_C, zq_D, zq_E, zq_F, zq_G, zq_H, zq_I, zq_J, zq_K, zq_L, ↓zq_M, ↓zq_N, ↓zq_O, ↓zq_P, ↓zq_Q, ↓zq_R, zq_S, zq_T, zq_U, zq_V, zq_W, zq_X, zq_Y, zq_Z, zq_0, zq_1, zq_2, zq_3, zq_4, zq_5, ↓zq_6, ↓zq_7, ↓zq_8, ↓zq_9, ↓zq_aa, zq_ab, zq_ac, zq_ad, zq_ae, zq_af, zq_ag, ↓zq_ah, ↓zq_ai, ↓zq_aj, zq_ak, ↓zq_al, ↓zq_am, e_b1, e_b2, x_o1, x_o2, w7]
    rw [j213, j213] at hk
    rw [hk]
    have fin : ∀ K', ws_S G r n p M W c K' (u + 1) → (∀ id k, ¬ (184 ≤ id ∧ id ≤ 186 ∧ k = c) → K' id k = K0 id k) → ∃ K'', E_V 101 11 [183, (c : Int), s, r, p, wh_A (wh_y G r) c (u - c), 1, x7 + 1, d8, y9, z10, z11, y12] K' = some (0, K'') ∧ (∀ id k, ¬ (184 ≤ id ∧ id ≤ 186 ∧ k = c) → K'' id k = K0 id k) ∧ (t + 1 = 0 ∧ u = c + 1 ∨ ws_S G r n p M W c K'' (n + 1)) := by
      intro K' hS hF
      obtain ⟨K'', e1, e2, e3⟩ := ih (u + 1) (wh_A (wh_y G r) c (u - c)) 1 (x7 + 1) d8 y9 z10 z11 y12 K' (by omega) (by omega) (by omega) (by rw [show u + 1 - 1 - c = u - c by omega]) hF (Or.inr ⟨rfl, hS⟩)
      refine ⟨K'', e1, e2, Or.inr (e3.resolve_left (fun h => by omega))⟩
    by_cases B : x6 = 0 ∨ K 184 c < z10 ∨ (z10 = K 184 c ∧ z11 ≤ K 185 c)
    · rw [if_pos B]
      refine fin _ ⟨u, ⟨by omega, by omega⟩, ?_, ?_, ?_, fun v v1 v2 => ?_⟩ (fun id k h => ?_)
      · rw [c_up_n (by omega), c_up_n (by omega), c_up_s, hz10]
      · rw [c_up_n (by omega), c_up_s, hz11]
      · rw [c_up_s, h7]
      · by_cases e : v = u
        · subst e
          exact ⟨Int.le_refl _, fun h => absurd h (Nat.lt_irrefl _)⟩
        · refine ⟨?_, fun h => by omega⟩
          rcases hst with h | ⟨h1, b, ⟨b1, b2⟩, b3, b4, -, b6⟩
          · omega
          · have Fb : wh_F (wh_y G r) n p M W c b = 64 * K 184 c - K 185 c := by rw [wk_F, b3, b4]
            have := (b6 v v1 (by omega)).1
            have bb := wk_b hn hr hp hG hO b1 (show b ≤ n by omega)
            rw [← b4] at bb
            rcases B with B | B | B <;> omega
      · rw [c_up_n (by omega), c_up_n (by omega), c_up_n (by omega)]
        exact hf id k h
    · rw [if_neg B]
      rcases hst with h | ⟨h1, b, ⟨b1, b2⟩, b3, b4, b5, b6⟩
      · exact absurd (Or.inl h.1) B
      · refine fin K ⟨b, ⟨b1, by omega⟩, b3, b4, b5, fun v v1 v2 => ?_⟩ hf
        by_cases e : v = u
        · subst e
          have Fb : wh_F (wh_y G r) n p M W c b = 64 * K 184 c - K 185 c := by rw [wk_F, b3, b4]
          have bb := wk_b hn hr hp hG hO b1 (show b ≤ n by omega)
          rw [← b4] at bb
          have lt : wh_F (wh_y G r) n p M W c v < wh_F (wh_y G r) n p M W c b := by omega
          exact ⟨by omega, fun _ => lt⟩
        · exact b6 v v1 (by omega)
theorem ws_101 (hc : c < n) (hn : n ≤ 30) (hh : s ∈ a_SH) (hr : 0 ≤ r ∧ r ≤ 20) (hp : 0 ≤ p ∧ p ≤ 9999) (hK : ∀ k, k < n → K0 (s + 1).toNat k = G k) (hG : ∀ k, k < n → 0 ≤ G k ∧ G k ≤ 999) (hO : ws_O K0 c n M W) (h0 : K0 183 0 = n) : ∃ K', E_C 101 [183, (c : Int), s, r, p] K0 = some (0, K') ∧ (∀ id k, ¬ (184 ≤ id ∧ id ≤ 186 ∧ k = c) → K' id k = K0 id k) ∧ ws_S G r n p M W c K' (n + 1) := by
  obtain ⟨K', k, f, h⟩ := ws_101l hc hn hh hr hp hK hG hO h0 (n - c) (c + 1) 0 0 ((c : Int) + 1) 0 0 0 0 0 K0 (by omega) (by omega) (Nat.le_refl _) (by rw [show c + 1 - 1 - c = 0 by omega]; rfl) (fun _ _ _ => rfl) (Or.inl ⟨rfl, rfl⟩)
  refine ⟨K', ?_, f, h.resolve_left (fun h => by omega)⟩
  have w1 : e_w ((c : Int) + 1) = (c : Int) + 1 := a_w_id (by omega) (by omega)
  rw [r_ent (show e_rok 101 [183, (c : Int), s, r, p] = true from ws_r rfl (by decide +kernel))]
  show e_tv E_C (E_V 101) e_t101_0 [183, (c : Int), s, r, p, 0, 0, 0, 0, 0, 0, 0, 0] K0 = _
  unfold e_t101_0
  clear hO hK hG h f
  generalize (c : Int) = cc at *
  simp [zq_a, zq_b, zq_c, zq_d, zq_e, zq_f, zq_g, zq_h, zq_i, zq_j, zq_k, zq_l, zq_m, zq_n, zq_o, zq_p, zq_q, zq_r, zq_s, zq_t, zq_u, zq_v, zq_w, zq_x, zq_y, zq_z, zq_A, zq_B, zq_C, zq_D, zq_E, zq_F, zq_G, zq_H, zq_I, zq_J, zq_K, zq_L, ↓zq_M, ↓zq_N, ↓zq_O, ↓zq_P, ↓zq_Q, ↓zq_R, zq_S, zq_T, zq_U, zq_V, zq_W, zq_X, zq_Y, zq_Z, zq_0, zq_1, zq_2, zq_3, zq_4, zq_5, ↓zq_6, ↓zq_7, ↓zq_8, ↓zq_9, ↓zq_aa, zq_ab, zq_ac, zq_ad, zq_ae, zq_af, zq_ag, ↓zq_ah, ↓zq_ai, ↓zq_aj, zq_ak, ↓zq_al, ↓zq_am, e_b1, e_b2, x_o1, x_o2, w1, k]
end WSL
end
