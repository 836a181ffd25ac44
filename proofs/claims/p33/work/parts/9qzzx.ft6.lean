/-! fits, look: the reference's loops -/
section FXK
variable {g : Int → Int} {C D : Nat → Int} {c d : Nat} {K : EM}
theorem fq_253 (h : fq_G g C D c d K) (hc : c ≤ 40) (hd : d ≤ 40) {p dI i : Int} {Q : Nat → Int} (k252 : ∀ (f : Nat) (k : Int), k = f → f < 1 + c + d → E_C 252 [192, p, dI, k] K = some (Q f, K)) (hi : -1 ≤ i) : E_V 253 36 [192, p, dI, i, 0, 0, 0] K = some (ft_r Q (1 + c + d) i, K) := by
  obtain ⟨-, -, -, h13, h14, -⟩ := h
  have w1 : e_w (1 + (c : Int)) = 1 + (c : Int) := a_w_id (by omega) (by omega)
  have w2 : e_w (1 + (c : Int) + (d : Int)) = 1 + (c : Int) + (d : Int) := a_w_id (by omega) (by omega)
  have lp : ∀ (t f : Nat) (x5 x6 : Int), x6 = f → f + t = 1 + c + d → x5 = (gd_n Q f : Int) → (i = -1 ∨ x5 ≤ i) → E_V 253 36 [192, p, dI, i, 0, x5, x6] K = some (ft_r Q (1 + c + d) i, K) := by
    intro t
    induction t with
    | zero =>
      intro f x5 x6 h6 hf h5 hx
      have e : f = 1 + c + d := by omega
      have q : ¬ (x6 < 1 + (c : Int) + (d : Int)) := by omega
      have h5' : x5 = (gd_n Q (1 + c + d) : Int) := by rw [h5, e]
      unfold ft_r
      rw [← h5']
      clear h5 h5' k252
      generalize (c : Int) = cc at *
      generalize (d : Int) = dd at *
      by_cases q2 : i = -1
      · rw [if_pos (by omega)]
        rw [E_V_eq]
        show e_tv E_C (E_V 253) e_t253_36 [192, p, dI, i, 0, x5, x6] K = _
        unfold e_t253_36
        simp [zq_a, zq_b, zq_c, zq_d, zq_e, zq_f, zq_g, zq_h, zq_i, zq_j, zq_k, zq_l, zq_m, zq_n, zq_o, zq_p, zq_q, zq_r, zq_s, zq_t, zq_u, zq_v, zq_w, zq_x, zq_y, zq_z, zq_A, zq_B, zq_C, zq_D, zq_E, zq_F, zq_G, zq_H, zq_I, zq_J, zq_K, zq_L, ↓zq_M, ↓zq_N, ↓zq_O, ↓zq_P, ↓zq_Q, ↓zq_R, zq_S, zq_T, zq_U, zq_V, zq_W, zq_X, zq_Y, zq_Z, zq_0, zq_1, zq_2, zq_3, zq_4, zq_5, ↓zq_6, ↓zq_7, ↓zq_8, ↓zq_9, ↓zq_aa, zq_ab, zq_ac, zq_ad, zq_ae, zq_af, zq_ag, ↓zq_ah, ↓zq_ai, ↓zq_aj, zq_ak, ↓zq_al, ↓zq_am, e_b1, e_b2, x_o1, x_o2, r_F13, r_F14, h13, h14, w1, w2, q, q2]
      · rw [if_neg (by omega), if_neg (by omega)]
        rw [E_V_eq]
        show e_tv E_C (E_V 253) e_t253_36 [192, p, dI, i, 0, x5, x6] K = _
        unfold e_t253_36
        simp [zq_a, zq_b, zq_c, zq_d, zq_e, zq_f, zq_g, zq_h, zq_i, zq_j, zq_k, zq_l, zq_m, zq_n, zq_o, zq_p, zq_q, zq_r, zq_s, zq_t, zq_u, zq_v, zq_w, zq_x, zq_y, zq_z, zq_A, zq_B, zq_C, zq_D, zq_E, zq_F, zq_G, zq_H, zq_I, zq_J, zq_K, zq_L, ↓zq_M, ↓zq_N, ↓zq_O, ↓zq_P, ↓zq_Q, ↓zq_R, zq_S, zq_T, zq_U, zq_V, zq_W, zq_X, zq_Y, zq_Z, zq_0, zq_1, zq_2, zq_3, zq_4, zq_5, ↓zq_6, ↓zq_7, ↓zq_8, ↓zq_9, ↓zq_aa, zq_ab, zq_ac, zq_ad, zq_ae, zq_af, zq_ag, ↓zq_ah, ↓zq_ai, ↓zq_aj, zq_ak, ↓zq_al, ↓zq_am, e_b1, e_b2, x_o1, x_o2, r_F13, r_F14, h13, h14, w1, w2, q, q2]
    | succ t ih =>
      intro f x5 x6 h6 hf h5 hx
      have kf := k252 f x6 h6 (by omega)
      have q : x6 < 1 + (c : Int) + (d : Int) := by omega
      have gl := gd_n_le (D := Q) f
      have w3 : e_w (x6 + 1) = x6 + 1 := a_w_id (by omega) (by omega)
      have w4 : e_w (x5 + 1) = x5 + 1 := a_w_id (by omega) (by omega)
      have j78 : ∀ y5, E_V 253 78 [192, p, dI, i, 0, y5, x6] K = E_V 253 36 [192, p, dI, i, 0, y5, x6 + 1] K := fun y5 => by
        rw [E_V_eq]
        show e_tv E_C (E_V 253) e_t253_78 [192, p, dI, i, 0, y5, x6] K = _
        unfold e_t253_78
        simp [zq_a, zq_b, zq_c, zq_d, zq_e, zq_f, zq_g, zq_h, zq_i, zq_j, zq_k, zq_l, zq_m, zq_n, zq_o, zq_p, zq_q, zq_r, zq_s, zq_t, zq_u, zq_v, zq_w, zq_x, zq_y, zq_z, zq_A, zq_B, zq_C, zq_D, zq_E, zq_F, zq_G, zq_H, zq_I, zq_J, zq_K, zq_L, ↓zq_M, ↓zq_N, ↓zq_O, ↓zq_P, ↓zq_Q, ↓zq_R, zq_S, zq_T, zq_U, zq_V, zq_W, zq_X, zq_Y, zq_Z, zq_0, zq_1, zq_2, zq_3, zq_4, zq_5, ↓zq_6, ↓zq_7, ↓zq_8, ↓zq_9, ↓zq_aa, zq_ab, zq_ac, zq_ad, zq_ae, zq_af, zq_ag, ↓zq_ah, ↓zq_ai, ↓zq_aj, zq_ak, ↓zq_al, ↓zq_am, e_b1, e_b2, x_o1, x_o2, w3]
      by_cases z : Q f = 0
      · have eg : gd_n Q (f + 1) = gd_n Q f := gd_n_0 z
        have kk := ih (f + 1) x5 (x6 + 1) (by omega) (by omega) (by rw [eg]; exact h5) hx
        rw [← kk, ← j78]
        rw [z] at kf
        clear ih kk k252 h5 eg gl
        generalize (c : Int) = cc at *
        generalize (d : Int) = dd at *
        rw [E_V_eq]
        show e_tv E_C (E_V 253) e_t253_36 [192, p, dI, i, 0, x5, x6] K = _
        unfold e_t253_36
        simp [zq_a, zq_b, zq_c, zq_d, zq_e, zq_f, zq_g, zq_h, zq_i, zq_j, zq_k, zq_l, zq_m, zq_n, zq_o, zq_p, zq_q, zq_r, zq_s, zq_t, zq_u, zq_v, zq_w, zq_x, zq_y, zq_z, zq_A, zq_B, zq_C, zq_D, zq_E, zq_F, zq_G, zq_H, zq_I, zq_J, zq_K, zq_L, ↓zq_M, ↓zq_N, ↓zq_O, ↓zq_P, ↓zq_Q, ↓zq_R, zq_S, zq_T, zq_U, zq_V, zq_W, zq_X, zq_Y, zq_Z, zq_0, zq_1, zq_2, zq_3, zq_4, zq_5, ↓zq_6, ↓zq_7, ↓zq_8, ↓zq_9, ↓zq_aa, zq_ab, zq_ac, zq_ad, zq_ae, zq_af, zq_ag, ↓zq_ah, ↓zq_ai, ↓zq_aj, zq_ak, ↓zq_al, ↓zq_am, e_b1, e_b2, x_o1, x_o2, r_F13, r_F14, h13, h14, w1, w2, q, kf]
      · have eg : gd_n Q (f + 1) = gd_n Q f + 1 := gd_n_1 z
        by_cases y : x5 = i
        · have a := gd_n_m (D := Q) (m := f + 1) t
          rw [eg, show f + 1 + t = 1 + c + d by omega] at a
          have hn := ft_n_e z rfl (1 + c + d) (show f < 1 + c + d by omega)
          have er : ft_r Q (1 + c + d) i = x6 := by
            unfold ft_r
            rw [if_neg (by omega), if_pos (by omega), show i.toNat = gd_n Q f by omega, hn]
            exact h6.symm
          rw [er]
          clear ih k252 h5 eg gl hn er a
          generalize (c : Int) = cc at *
          generalize (d : Int) = dd at *
          generalize Q f = qf at *
          rw [E_V_eq]
          show e_tv E_C (E_V 253) e_t253_36 [192, p, dI, i, 0, x5, x6] K = _
          unfold e_t253_36
          simp [zq_a, zq_b, zq_c, zq_d, zq_e, zq_f, zq_g, zq_h, zq_i, zq_j, zq_k, zq_l, zq_m, zq_n, zq_o, zq_p, zq_q, zq_r, zq_s, zq_t, zq_u, zq_v, zq_w, zq_x, zq_y, zq_z, zq_A, zq_B, zq_C, zq_D, zq_E, zq_F, zq_G, zq_H, zq_I, zq_J, zq_K, zq_L, ↓zq_M, ↓zq_N, ↓zq_O, ↓zq_P, ↓zq_Q, ↓zq_R, zq_S, zq_T, zq_U, zq_V, zq_W, zq_X, zq_Y, zq_Z, zq_0, zq_1, zq_2, zq_3, zq_4, zq_5, ↓zq_6, ↓zq_7, ↓zq_8, ↓zq_9, ↓zq_aa, zq_ab, zq_ac, zq_ad, zq_ae, zq_af, zq_ag, ↓zq_ah, ↓zq_ai, ↓zq_aj, zq_ak, ↓zq_al, ↓zq_am, e_b1, e_b2, x_o1, x_o2, r_F13, r_F14, h13, h14, w1, w2, q, kf, z, y]
        · have kk := ih (f + 1) (x5 + 1) (x6 + 1) (by omega) (by omega) (by omega) (by omega)
          rw [← kk, ← j78]
          clear ih kk k252 h5 eg gl
          generalize (c : Int) = cc at *
          generalize (d : Int) = dd at *
          generalize Q f = qf at *
          rw [E_V_eq]
          show e_tv E_C (E_V 253) e_t253_36 [192, p, dI, i, 0, x5, x6] K = _
          unfold e_t253_36
          simp [zq_a, zq_b, zq_c, zq_d, zq_e, zq_f, zq_g, zq_h, zq_i, zq_j, zq_k, zq_l, zq_m, zq_n, zq_o, zq_p, zq_q, zq_r, zq_s, zq_t, zq_u, zq_v, zq_w, zq_x, zq_y, zq_z, zq_A, zq_B, zq_C, zq_D, zq_E, zq_F, zq_G, zq_H, zq_I, zq_J, zq_K, zq_L, ↓zq_M, ↓zq_N, ↓zq_O, ↓zq_P, ↓zq_Q, ↓zq_R, zq_S, zq_T, zq_U, zq_V, zq_W, zq_X, zq_Y, zq_Z, zq_0, zq_1, zq_2, zq_3, zq_4, zq_5, ↓zq_6, ↓zq_7, ↓zq_8, ↓zq_9, ↓zq_aa, zq_ab, zq_ac, zq_ad, zq_ae, zq_af, zq_ag, ↓zq_ah, ↓zq_ai, ↓zq_aj, zq_ak, ↓zq_al, ↓zq_am, e_b1, e_b2, x_o1, x_o2, r_F13, r_F14, h13, h14, w1, w2, w4, q, kf, z, y]
  exact lp (1 + c + d) 0 0 0 rfl (by omega) rfl (by omega)
/-- one group counted -/
theorem fq_155 {p dI x5 x6 u x8 a : Int} {n A : Nat} {v : Nat → Int} {M : EM} (hn : n ≤ 81) (hu : 0 ≤ u ∧ u ≤ 120) (ha : a = A) (hA : A < n) (hv : ∀ k : Nat, k < n → M 212 (121 * k + u.toNat) = v k) : ∀ (t b : Nat) (x10 x11 : Int), x11 = b → b + t = n → x10 = (lk_m v (v A) b : Int) → E_V 254 155 [192, p, dI, 0, (n : Int), x5, x6, u, x8, a, x10, x11] M = E_V 254 142 [192, p, dI, 0, (n : Int), x5, x6, u, if x8 < (lk_m v (v A) n : Int) then (lk_m v (v A) n : Int) else x8, a + 1, (lk_m v (v A) n : Int), (n : Int)] M := by
  have w0 : e_w (a + 1) = a + 1 := a_w_id (by omega) (by omega)
  intro t
  induction t with
  | zero =>
    intro b x10 x11 h11 hb h10
    have e : b = n := by omega
    subst e
    rw [← h10, ← h11]
    have q : ¬ (x11 < x11) := by omega
    clear h10 hv hA
    rcases x_lt x8 x10 with ⟨c, c_n⟩ | ⟨c, c_n⟩
    · rw [E_V_eq]
      show e_tv E_C (E_V 254) e_t254_155 [192, p, dI, 0, x11, x5, x6, u, x8, a, x10, x11] M = _
      unfold e_t254_155
      simp [zq_a, zq_b, zq_c, zq_d, zq_e, zq_f, zq_g, zq_h, zq_i, zq_j, zq_k, zq_l, zq_m, zq_n, zq_o, zq_p, zq_q, zq_r, zq_s, zq_t, zq_u, zq_v, zq_w, zq_x, zq_y, zq_z, zq_A, zq_B, zq_C, zq_D, zq_E, zq_F, zq_G, zq_H, zq_I, zq_J, zq_K, zq_L, ↓zq_M, ↓zq_N, ↓zq_O, ↓zq_P, ↓zq_Q, ↓zq_R, zq_S, zq_T, zq_U, zq_V, zq_W, zq_X, zq_Y, zq_Z, zq_0, zq_1, zq_2, zq_3, zq_4, zq_5, ↓zq_6, ↓zq_7, ↓zq_8, ↓zq_9, ↓zq_aa, zq_ab, zq_ac, zq_ad, zq_ae, zq_af, zq_ag, ↓zq_ah, ↓zq_ai, ↓zq_aj, zq_ak, ↓zq_al, ↓zq_am, e_b1, e_b2, x_o1, x_o2, q, c, c_n, w0]
    · rw [E_V_eq]
      show e_tv E_C (E_V 254) e_t254_155 [192, p, dI, 0, x11, x5, x6, u, x8, a, x10, x11] M = _
      unfold e_t254_155
      simp [zq_a, zq_b, zq_c, zq_d, zq_e, zq_f, zq_g, zq_h, zq_i, zq_j, zq_k, zq_l, zq_m, zq_n, zq_o, zq_p, zq_q, zq_r, zq_s, zq_t, zq_u, zq_v, zq_w, zq_x, zq_y, zq_z, zq_A, zq_B, zq_C, zq_D, zq_E, zq_F, zq_G, zq_H, zq_I, zq_J, zq_K, zq_L, ↓zq_M, ↓zq_N, ↓zq_O, ↓zq_P, ↓zq_Q, ↓zq_R, zq_S, zq_T, zq_U, zq_V, zq_W, zq_X, zq_Y, zq_Z, zq_0, zq_1, zq_2, zq_3, zq_4, zq_5, ↓zq_6, ↓zq_7, ↓zq_8, ↓zq_9, ↓zq_aa, zq_ab, zq_ac, zq_ad, zq_ae, zq_af, zq_ag, ↓zq_ah, ↓zq_ai, ↓zq_aj, zq_ak, ↓zq_al, ↓zq_am, e_b1, e_b2, x_o1, x_o2, q, c, c_n, w0]
  | succ t ih =>
    intro b x10 x11 h11 hb h10
    have ml : lk_m v (v A) b ≤ b := lk_m_le
    have w1 : e_w (121 * a) = 121 * a := a_w_id (by omega) (by omega)
    have w2 : e_w (121 * a + u) = 121 * a + u := a_w_id (by omega) (by omega)
    have w3 : e_w (121 * x11) = 121 * x11 := a_w_id (by omega) (by omega)
    have w4 : e_w (121 * x11 + u) = 121 * x11 + u := a_w_id (by omega) (by omega)
    have w5 : e_w (x11 + 1) = x11 + 1 := a_w_id (by omega) (by omega)
    have w6 : e_w (x10 + 1) = x10 + 1 := a_w_id (by omega) (by omega)
    have w7' : e_w x10 = x10 := a_w_id (by omega) (by omega)
    have w7 : e_w (x10 + 0) = x10 := by rw [Int.add_zero]; exact w7'
    have l1 : e_op 60 [212, 121 * a + u] M = some (v A) := (r_ld212 (by omega) (by omega)).trans (congrArg some (by rw [show (121 * a + u).toNat = 121 * A + u.toNat by omega, hv A hA]))
    have l2 : e_op 60 [212, 121 * x11 + u] M = some (v b) := (r_ld212 (by omega) (by omega)).trans (congrArg some (by rw [show (121 * x11 + u).toNat = 121 * b + u.toNat by omega, hv b (by omega)]))
    have q : x11 < (n : Int) := by omega
    by_cases c : v b = v A
    · have m1 := lk_m_1 (v := v) (a := v A) (n := b) c
      have kk := ih (b + 1) (x10 + 1) (x11 + 1) (by omega) (by omega) (by omega)
      rw [← kk]
      rw [c] at l2
      clear kk ih hv h10 m1 ml hA
      generalize v A = va at *
      generalize (n : Int) = nn at *
      rw [E_V_eq]
      show e_tv E_C (E_V 254) e_t254_155 [192, p, dI, 0, nn, x5, x6, u, x8, a, x10, x11] M = _
      unfold e_t254_155
      simp [zq_a, zq_b, zq_c, zq_d, zq_e, zq_f, zq_g, zq_h, zq_i, zq_j, zq_k, zq_l, zq_m, zq_n, zq_o, zq_p, zq_q, zq_r, zq_s, zq_t, zq_u, zq_v, zq_w, zq_x, zq_y, zq_z, zq_A, zq_B, zq_C, zq_D, zq_E, zq_F, zq_G, zq_H, zq_I, zq_J, zq_K, zq_L, ↓zq_M, ↓zq_N, ↓zq_O, ↓zq_P, ↓zq_Q, ↓zq_R, zq_S, zq_T, zq_U, zq_V, zq_W, zq_X, zq_Y, zq_Z, zq_0, zq_1, zq_2, zq_3, zq_4, zq_5, ↓zq_6, ↓zq_7, ↓zq_8, ↓zq_9, ↓zq_aa, zq_ab, zq_ac, zq_ad, zq_ae, zq_af, zq_ag, ↓zq_ah, ↓zq_ai, ↓zq_aj, zq_ak, ↓zq_al, ↓zq_am, e_b1, e_b2, x_o1, x_o2, r_O39, q, w1, w2, w3, w4, w5, w6, l1, l2]
    · have m0 := lk_m_0 (v := v) (a := v A) (n := b) c
      have kk := ih (b + 1) x10 (x11 + 1) (by omega) (by omega) (by omega)
      rw [← kk]
      have c' : ¬ v A = v b := fun e => c e.symm
      clear kk ih hv h10 m0 ml hA
      generalize v A = va at *
      generalize v b = vb at *
      generalize (n : Int) = nn at *
      rw [E_V_eq]
      show e_tv E_C (E_V 254) e_t254_155 [192, p, dI, 0, nn, x5, x6, u, x8, a, x10, x11] M = _
      unfold e_t254_155
      simp [zq_a, zq_b, zq_c, zq_d, zq_e, zq_f, zq_g, zq_h, zq_i, zq_j, zq_k, zq_l, zq_m, zq_n, zq_o, zq_p, zq_q, zq_r, zq_s, zq_t, zq_u, zq_v, zq_w, zq_x, zq_y, zq_z, zq_A, zq_B, zq_C, zq_D, zq_E, zq_F, zq_G, zq_H, zq_I, zq_J, zq_K, zq_L, ↓zq_M, ↓zq_N, ↓zq_O, ↓zq_P, ↓zq_Q, ↓zq_R, zq_S, zq_T, zq_U, zq_V, zq_W, zq_X, zq_Y, zq_Z, zq_0, zq_1, zq_2, zq_3, zq_4, zq_5, ↓zq_6, ↓zq_7, ↓zq_8, ↓zq_9, ↓zq_aa, zq_ab, zq_ac, zq_ad, zq_ae, zq_af, zq_ag, ↓zq_ah, ↓zq_ai, ↓zq_aj, zq_ak, ↓zq_al, ↓zq_am, e_b1, e_b2, x_o1, x_o2, r_O39, q, w1, w2, w3, w4, w5, w7, w7', l1, l2, c']
theorem fq_142 {p dI x5 x6 u : Int} {n : Nat} {v : Nat → Int} {M : EM} (hn : n ≤ 81) (hu : 0 ≤ u ∧ u ≤ 120) (hv : ∀ k : Nat, k < n → M 212 (121 * k + u.toNat) = v k) : ∀ (t A : Nat) (x8 a x10 x11 : Int), a = A → A + t = n → x8 = (lk_h v n A : Int) → ∃ y10 y11, E_V 254 142 [192, p, dI, 0, (n : Int), x5, x6, u, x8, a, x10, x11] M = E_V 254 124 [192, p, dI, 0, (n : Int), if 0 ≤ x5 ∧ x6 ≤ (lk_h v n n : Int) then x5 else u, if 0 ≤ x5 ∧ x6 ≤ (lk_h v n n : Int) then x6 else (lk_h v n n : Int), u + 1, (lk_h v n n : Int), (n : Int), y10, y11] M := by
  have w0 : e_w (u + 1) = u + 1 := a_w_id (by omega) (by omega)
  intro t
  induction t with
  | zero =>
    intro A x8 a x10 x11 h9 hA h8
    have e : A = n := by omega
    subst e
    refine ⟨x10, x11, ?_⟩
    rw [← h8, ← h9]
    have q : ¬ (a < a) := by omega
    have j : ∀ y5 y6, E_V 254 252 [192, p, dI, 0, a, y5, y6, u, x8, a, x10, x11] M = E_V 254 124 [192, p, dI, 0, a, y5, y6, u + 1, x8, a, x10, x11] M := fun y5 y6 => by
      rw [E_V_eq]
      show e_tv E_C (E_V 254) e_t254_252 [192, p, dI, 0, a, y5, y6, u, x8, a, x10, x11] M = _
      unfold e_t254_252
      simp [zq_a, zq_b, zq_c, zq_d, zq_e, zq_f, zq_g, zq_h, zq_i, zq_j, zq_k, zq_l, zq_m, zq_n, zq_o, zq_p, zq_q, zq_r, zq_s, zq_t, zq_u, zq_v, zq_w, zq_x, zq_y, zq_z, zq_A, zq_B, zq_C, zq_D, zq_E, zq_F, zq_G, zq_H, zq_I, zq_J, zq_K, zq_L, ↓zq_M, ↓zq_N, ↓zq_O, ↓zq_P, ↓zq_Q, ↓zq_R, zq_S, zq_T, zq_U, zq_V, zq_W, zq_X, zq_Y, zq_Z, zq_0, zq_1, zq_2, zq_3, zq_4, zq_5, ↓zq_6, ↓zq_7, ↓zq_8, ↓zq_9, ↓zq_aa, zq_ab, zq_ac, zq_ad, zq_ae, zq_af, zq_ag, ↓zq_ah, ↓zq_ai, ↓zq_aj, zq_ak, ↓zq_al, ↓zq_am, e_b1, e_b2, x_o1, x_o2, w0]
    clear h8 hv
    rcases x_le 0 x5 with ⟨c1, c1_n⟩ | ⟨c1, c1_n⟩
    · rcases x_le x6 x8 with ⟨c2, c2_n⟩ | ⟨c2, c2_n⟩
      · rw [if_pos ⟨c1, c2⟩, if_pos ⟨c1, c2⟩]
        rw [E_V_eq]
        show e_tv E_C (E_V 254) e_t254_142 [192, p, dI, 0, a, x5, x6, u, x8, a, x10, x11] M = _
        unfold e_t254_142
        simp [zq_a, zq_b, zq_c, zq_d, zq_e, zq_f, zq_g, zq_h, zq_i, zq_j, zq_k, zq_l, zq_m, zq_n, zq_o, zq_p, zq_q, zq_r, zq_s, zq_t, zq_u, zq_v, zq_w, zq_x, zq_y, zq_z, zq_A, zq_B, zq_C, zq_D, zq_E, zq_F, zq_G, zq_H, zq_I, zq_J, zq_K, zq_L, ↓zq_M, ↓zq_N, ↓zq_O, ↓zq_P, ↓zq_Q, ↓zq_R, zq_S, zq_T, zq_U, zq_V, zq_W, zq_X, zq_Y, zq_Z, zq_0, zq_1, zq_2, zq_3, zq_4, zq_5, ↓zq_6, ↓zq_7, ↓zq_8, ↓zq_9, ↓zq_aa, zq_ab, zq_ac, zq_ad, zq_ae, zq_af, zq_ag, ↓zq_ah, ↓zq_ai, ↓zq_aj, zq_ak, ↓zq_al, ↓zq_am, e_b1, e_b2, x_o1, x_o2, q, c1, c1_n, c2, c2_n, j]
      · rw [if_neg (by omega), if_neg (by omega)]
        rw [E_V_eq]
        show e_tv E_C (E_V 254) e_t254_142 [192, p, dI, 0, a, x5, x6, u, x8, a, x10, x11] M = _
        unfold e_t254_142
        simp [zq_a, zq_b, zq_c, zq_d, zq_e, zq_f, zq_g, zq_h, zq_i, zq_j, zq_k, zq_l, zq_m, zq_n, zq_o, zq_p, zq_q, zq_r, zq_s, zq_t, zq_u, zq_v, zq_w, zq_x, zq_y, zq_z, zq_A, zq_B, zq_C, zq_D, zq_E, zq_F, zq_G, zq_H, zq_I, zq_J, zq_K, zq_L, ↓zq_M, ↓zq_N, ↓zq_O, ↓zq_P, ↓zq_Q, ↓zq_R, zq_S, zq_T, zq_U, zq_V, zq_W, zq_X, zq_Y, zq_Z, zq_0, zq_1, zq_2, zq_3, zq_4, zq_5, ↓zq_6, ↓zq_7, ↓zq_8, ↓zq_9, ↓zq_aa, zq_ab, zq_ac, zq_ad, zq_ae, zq_af, zq_ag, ↓zq_ah, ↓zq_ai, ↓zq_aj, zq_ak, ↓zq_al, ↓zq_am, e_b1, e_b2, x_o1, x_o2, q, c1, c1_n, c2, c2_n, j]
    · rw [if_neg (by omega), if_neg (by omega)]
      rw [E_V_eq]
      show e_tv E_C (E_V 254) e_t254_142 [192, p, dI, 0, a, x5, x6, u, x8, a, x10, x11] M = _
      unfold e_t254_142
      simp [zq_a, zq_b, zq_c, zq_d, zq_e, zq_f, zq_g, zq_h, zq_i, zq_j, zq_k, zq_l, zq_m, zq_n, zq_o, zq_p, zq_q, zq_r, zq_s, zq_t, zq_u, zq_v, zq_w, zq_x, zq_y, zq_z, zq_A, zq_B, zq_C, zq_D, zq_E, zq_F, zq_G, zq_H, zq_I, zq_J, zq_K, zq_L, ↓zq_M, ↓zq_N, ↓zq_O, ↓zq_P, ↓zq_Q, ↓zq_R, zq_S, zq_T, zq_U, zq_V, zq_W, zq_X, zq_Y, zq_Z, zq_0, zq_1, zq_2, zq_3, zq_4, zq_5, ↓zq_6, ↓zq_7, ↓zq_8, ↓zq_9, ↓zq_aa, zq_ab, zq_ac, zq_ad, zq_ae, zq_af, zq_ag, ↓zq_ah, ↓zq_ai, ↓zq_aj, zq_ak, ↓zq_al, ↓zq_am, e_b1, e_b2, x_o1, x_o2, q, c1, c1_n, j]
  | succ t ih =>
    intro A x8 a x10 x11 h9 hA h8
    have q : a < (n : Int) := by omega
    have k155 := fq_155 (p := p) (dI := dI) (x5 := x5) (x6 := x6) (x8 := x8) (M := M) hn hu h9 (show A < n by omega) hv n 0 0 0 rfl (by omega) rfl
    have hs := lk_h_s (v := v) (n := n) (k := A)
    obtain ⟨y8, hy8⟩ : ∃ y8 : Int, (if x8 < (lk_m v (v A) n : Int) then (lk_m v (v A) n : Int) else x8) = y8 := ⟨_, rfl⟩
    rw [hy8] at k155
    obtain ⟨y10, y11, kk⟩ := ih (A + 1) y8 (a + 1) (lk_m v (v A) n : Int) (n : Int) (by omega) (by omega) (by
      rw [hs, ← hy8]
      rcases Classical.em (lk_h v n A < lk_m v (v A) n) with z | z
      · rw [if_pos z, if_pos (by omega)]
      · rw [if_neg z, if_neg (by omega)]
        exact h8)
    refine ⟨y10, y11, ?_⟩
    rw [← kk, ← k155]
    clear kk k155 ih hs hy8 h8 hv
    generalize (n : Int) = nn at *
    rw [E_V_eq]
    show e_tv E_C (E_V 254) e_t254_142 [192, p, dI, 0, nn, x5, x6, u, x8, a, x10, x11] M = _
    unfold e_t254_142
    simp [zq_a, zq_b, zq_c, zq_d, zq_e, zq_f, zq_g, zq_h, zq_i, zq_j, zq_k, zq_l, zq_m, zq_n, zq_o, zq_p, zq_q, zq_r, zq_s, zq_t, zq_u, zq_v, zq_w, zq_x, zq_y, zq_z, zq_A, zq_B, zq_C, zq_D, zq_E, zq_F, zq_G, zq_H, zq_I, zq_J, zq_K, zq_L, ↓zq_M, ↓zq_N, ↓zq_O, ↓zq_P, ↓zq_Q, ↓zq_R, zq_S, zq_T, zq_U, zq_V, zq_W, zq_X, zq_Y, zq_Z, zq_0, zq_1, zq_2, zq_3, zq_4, zq_5, ↓zq_6, ↓zq_7, ↓zq_8, ↓zq_9, ↓zq_aa, zq_ab, zq_ac, zq_ad, zq_ae, zq_af, zq_ag, ↓zq_ah, ↓zq_ai, ↓zq_aj, zq_ak, ↓zq_al, ↓zq_am, e_b1, e_b2, x_o1, x_o2, q]
theorem fq_124 {p dI : Int} {n : Nat} {V : Nat → Nat → Int} {M : EM} (hn : n ≤ 81) (hv : ∀ u k : Nat, u < 121 → k < n → M 212 (121 * k + u) = V u k) (x6 x8 x9 x10 x11 : Int) : E_V 254 124 [192, p, dI, 0, (n : Int), -4, x6, 0, x8, x9, x10, x11] M = some (if n = 0 then -4 else ((lk_b (fun u => lk_g (V u) n) (n + 1) 121).1 : Int), M) := by
  by_cases z : n = 0
  · rw [if_pos z]
    have z1 : (n : Int) = 0 := by omega
    rw [z1]
    rw [E_V_eq]
    show e_tv E_C (E_V 254) e_t254_124 [192, p, dI, 0, 0, -4, x6, 0, x8, x9, x10, x11] M = _
    unfold e_t254_124
    simp [zq_a, zq_b, zq_c, zq_d, zq_e, zq_f, zq_g, zq_h, zq_i, zq_j, zq_k, zq_l, zq_m, zq_n, zq_o, zq_p, zq_q, zq_r, zq_s, zq_t, zq_u, zq_v, zq_w, zq_x, zq_y, zq_z, zq_A, zq_B, zq_C, zq_D, zq_E, zq_F, zq_G, zq_H, zq_I, zq_J, zq_K, zq_L, ↓zq_M, ↓zq_N, ↓zq_O, ↓zq_P, ↓zq_Q, ↓zq_R, zq_S, zq_T, zq_U, zq_V, zq_W, zq_X, zq_Y, zq_Z, zq_0, zq_1, zq_2, zq_3, zq_4, zq_5, ↓zq_6, ↓zq_7, ↓zq_8, ↓zq_9, ↓zq_aa, zq_ab, zq_ac, zq_ad, zq_ae, zq_af, zq_ag, ↓zq_ah, ↓zq_ai, ↓zq_aj, zq_ak, ↓zq_al, ↓zq_am, e_b1, e_b2, x_o1, x_o2]
  · rw [if_neg z]
    have q1 : 0 < (n : Int) := by omega
    have q1' : ¬ ((n : Int) ≤ 0) := by omega
    have st : ∀ (u : Nat) (x5 x6 x7 x8 x9 x10 x11 : Int), x7 = u → u < 121 → ∃ y10 y11, E_V 254 124 [192, p, dI, 0, (n : Int), x5, x6, x7, x8, x9, x10, x11] M = E_V 254 124 [192, p, dI, 0, (n : Int), if 0 ≤ x5 ∧ x6 ≤ (lk_g (V u) n : Int) then x5 else x7, if 0 ≤ x5 ∧ x6 ≤ (lk_g (V u) n : Int) then x6 else (lk_g (V u) n : Int), x7 + 1, (lk_g (V u) n : Int), (n : Int), y10, y11] M := by
      intro u x5 x6 x7 x8 x9 x10 x11 h7 hu
      obtain ⟨y10, y11, k⟩ := fq_142 (p := p) (dI := dI) (x5 := x5) (x6 := x6) (u := x7) (v := V u) (M := M) hn ⟨by omega, by omega⟩ (fun k hk => by rw [show x7.toNat = u by omega]; exact hv u k hu hk) n 0 0 0 x10 x11 rfl (by omega) rfl
      rw [lk_gh] at k
      refine ⟨y10, y11, ?_⟩
      rw [← k]
      have q0 : x7 ≤ 120 := by omega
      have q0' : ¬ (120 < x7) := by omega
      clear k hv
      generalize (n : Int) = nn at *
      rw [E_V_eq]
      show e_tv E_C (E_V 254) e_t254_124 [192, p, dI, 0, nn, x5, x6, x7, x8, x9, x10, x11] M = _
      unfold e_t254_124
      simp [zq_a, zq_b, zq_c, zq_d, zq_e, zq_f, zq_g, zq_h, zq_i, zq_j, zq_k, zq_l, zq_m, zq_n, zq_o, zq_p, zq_q, zq_r, zq_s, zq_t, zq_u, zq_v, zq_w, zq_x, zq_y, zq_z, zq_A, zq_B, zq_C, zq_D, zq_E, zq_F, zq_G, zq_H, zq_I, zq_J, zq_K, zq_L, ↓zq_M, ↓zq_N, ↓zq_O, ↓zq_P, ↓zq_Q, ↓zq_R, zq_S, zq_T, zq_U, zq_V, zq_W, zq_X, zq_Y, zq_Z, zq_0, zq_1, zq_2, zq_3, zq_4, zq_5, ↓zq_6, ↓zq_7, ↓zq_8, ↓zq_9, ↓zq_aa, zq_ab, zq_ac, zq_ad, zq_ae, zq_af, zq_ag, ↓zq_ah, ↓zq_ai, ↓zq_aj, zq_ak, ↓zq_al, ↓zq_am, e_b1, e_b2, x_o1, x_o2, q0, q0', q1, q1']
    have lp : ∀ (t u : Nat) (x5 x6 x7 x8 x9 x10 x11 : Int), x7 = u → u + t = 121 → x5 = ((lk_b (fun u => lk_g (V u) n) (n + 1) u).1 : Int) → x6 = ((lk_b (fun u => lk_g (V u) n) (n + 1) u).2 : Int) → E_V 254 124 [192, p, dI, 0, (n : Int), x5, x6, x7, x8, x9, x10, x11] M = some (((lk_b (fun u => lk_g (V u) n) (n + 1) 121).1 : Int), M) := by
      intro t
      induction t with
      | zero =>
        intro u x5 x6 x7 x8 x9 x10 x11 h7 hu h5 h6
        have e : u = 121 := by omega
        subst e
        rw [← h5]
        have q0 : ¬ (x7 ≤ 120) := by omega
        have q0' : 120 < x7 := by omega
        clear h5 h6 hv st
        generalize (n : Int) = nn at *
        rw [E_V_eq]
        show e_tv E_C (E_V 254) e_t254_124 [192, p, dI, 0, nn, x5, x6, x7, x8, x9, x10, x11] M = _
        unfold e_t254_124
        simp [zq_a, zq_b, zq_c, zq_d, zq_e, zq_f, zq_g, zq_h, zq_i, zq_j, zq_k, zq_l, zq_m, zq_n, zq_o, zq_p, zq_q, zq_r, zq_s, zq_t, zq_u, zq_v, zq_w, zq_x, zq_y, zq_z, zq_A, zq_B, zq_C, zq_D, zq_E, zq_F, zq_G, zq_H, zq_I, zq_J, zq_K, zq_L, ↓zq_M, ↓zq_N, ↓zq_O, ↓zq_P, ↓zq_Q, ↓zq_R, zq_S, zq_T, zq_U, zq_V, zq_W, zq_X, zq_Y, zq_Z, zq_0, zq_1, zq_2, zq_3, zq_4, zq_5, ↓zq_6, ↓zq_7, ↓zq_8, ↓zq_9, ↓zq_aa, zq_ab, zq_ac, zq_ad, zq_ae, zq_af, zq_ag, ↓zq_ah, ↓zq_ai, ↓zq_aj, zq_ak, ↓zq_al, ↓zq_am, e_b1, e_b2, x_o1, x_o2, q0, q0']
      | succ t ih =>
        intro u x5 x6 x7 x8 x9 x10 x11 h7 hu h5 h6
        obtain ⟨y10, y11, k⟩ := st u x5 x6 x7 x8 x9 x10 x11 h7 (by omega)
        rw [k]
        rcases Classical.em (lk_g (V u) n < (lk_b (fun u => lk_g (V u) n) (n + 1) u).2) with c | c
        · have eb := lk_b_1 (G := fun u => lk_g (V u) n) c
          rw [if_neg (by omega), if_neg (by omega)]
          exact ih (u + 1) _ _ _ _ _ _ _ (by omega) (by omega) (by rw [eb]; exact h7) (by rw [eb])
        · have eb := lk_b_0 (G := fun u => lk_g (V u) n) c
          rw [if_pos ⟨by omega, by omega⟩, if_pos ⟨by omega, by omega⟩]
          exact ih (u + 1) _ _ _ _ _ _ _ (by omega) (by omega) (by rw [eb]; exact h5) (by rw [eb]; exact h6)
    obtain ⟨y10, y11, k⟩ := st 0 (-4) x6 0 x8 x9 x10 x11 rfl (by decide)
    rw [k, if_neg (by omega), if_neg (by omega)]
    have c : lk_g (V 0) n < (lk_b (fun u => lk_g (V u) n) (n + 1) 0).2 := by
      have := lk_g_le (v := V 0) n
      show lk_g (V 0) n < n + 1
      omega
    have eb := lk_b_1 (G := fun u => lk_g (V u) n) c
    exact lp 120 1 _ _ _ _ _ _ _ rfl rfl (by rw [eb]; rfl) (by rw [eb])
/-- what would be seen, copied -/
theorem fq_72 {p dI x5 x7 x8 x9 x10 x11 : Int} {n : Nat} {F : Int → Int} (hn : n ≤ 81) {K : EM} (h205 : ∀ u : Nat, u < 121 → K 205 u = F (u : Int)) : ∃ K' y6, (E_V 254 72 [192, p, dI, 0, (n : Int), x5, 0, x7, x8, x9, x10, x11] K = E_V 254 108 [192, p, dI, 0, ((n + 1 : Nat) : Int), x5, y6, x7, x8, x9, x10, x11] K') ∧ (∀ u : Nat, u < 121 → K' 212 (121 * n + u) = F (u : Int)) ∧ ∀ id k, ¬ (id = 212 ∧ 121 * n ≤ k) → K' id k = K id k := by
  have w0 : e_w ((n : Int) + 1) = (n : Int) + 1 := a_w_id (by omega) (by omega)
  have lp : ∀ (t u : Nat) (x6 : Int) (J : EM), x6 = u → u + t = 121 → (∀ w : Nat, w < u → J 212 (121 * n + w) = F (w : Int)) → (∀ id k, ¬ (id = 212 ∧ 121 * n ≤ k) → J id k = K id k) → ∃ K' y6, E_V 254 72 [192, p, dI, 0, (n : Int), x5, x6, x7, x8, x9, x10, x11] J = E_V 254 108 [192, p, dI, 0, (n : Int) + 1, x5, y6, x7, x8, x9, x10, x11] K' ∧ (∀ u : Nat, u < 121 → K' 212 (121 * n + u) = F (u : Int)) ∧ ∀ id k, ¬ (id = 212 ∧ 121 * n ≤ k) → K' id k = K id k := by
    intro t
    induction t with
    | zero =>
      intro u x6 J h6 hu hw hf
      have e : u = 121 := by omega
      subst e
      refine ⟨J, x6, ?_, hw, hf⟩
      have q : ¬ (x6 ≤ 120) := by omega
      have q' : 120 < x6 := by omega
      clear hw hf h205
      generalize (n : Int) = nn at *
      rw [E_V_eq]
      show e_tv E_C (E_V 254) e_t254_72 [192, p, dI, 0, nn, x5, x6, x7, x8, x9, x10, x11] J = _
      unfold e_t254_72
      simp [zq_a, zq_b, zq_c, zq_d, zq_e, zq_f, zq_g, zq_h, zq_i, zq_j, zq_k, zq_l, zq_m, zq_n, zq_o, zq_p, zq_q, zq_r, zq_s, zq_t, zq_u, zq_v, zq_w, zq_x, zq_y, zq_z, zq_A, zq_B, zq_C, zq_D, zq_E, zq_F, zq_G, zq_H, zq_I, zq_J, zq_K, zq_L, ↓zq_M, ↓zq_N, ↓zq_O, ↓zq_P, ↓zq_Q, ↓zq_R, zq_S, zq_T, zq_U, zq_V, zq_W, zq_X, zq_Y, zq_Z, zq_0, zq_1, zq_2, zq_3, zq_4, zq_5, ↓zq_6, ↓zq_7, ↓zq_8, ↓zq_9, ↓zq_aa, zq_ab, zq_ac, zq_ad, zq_ae, zq_af, zq_ag, ↓zq_ah, ↓zq_ai, ↓zq_aj, zq_ak, ↓zq_al, ↓zq_am, e_b1, e_b2, x_o1, x_o2, q, q', w0]
    | succ t ih =>
      intro u x6 J h6 hu hw hf
      have g1 : e_op 60 [205, x6] J = some (F x6) := (r_rd5 (by omega) (by omega)).trans (congrArg some (by rw [hf _ _ (by omega), show x6.toNat = u by omega, h205 u (by omega), h6]))
      have st := r_st212 (i := 121 * (n : Int) + x6) (v := F x6) (M := J) (by omega) (by omega)
      rw [show (121 * (n : Int) + x6).toNat = 121 * n + u by omega] at st
      obtain ⟨K', y6, k, k1, k2⟩ := ih (u + 1) (x6 + 1) (e_up J 212 (121 * n + u) (F x6)) (by omega) (by omega) (fun w hw' => by
        by_cases e : w = u
        · rw [e, c_up_s, h6]
        · rw [c_up_n (by omega)]
          exact hw w (by omega)) (fun id k h => by rw [c_up_n (by omega)]; exact hf id k h)
      refine ⟨K', y6, ?_, k1, k2⟩
      rw [← k]
      have w1 : e_w (121 * (n : Int)) = 121 * (n : Int) := a_w_id (by omega) (by omega)
      have w2 : e_w (121 * (n : Int) + x6) = 121 * (n : Int) + x6 := a_w_id (by omega) (by omega)
      have w3 : e_w (x6 + 1) = x6 + 1 := a_w_id (by omega) (by omega)
      have q : x6 ≤ 120 := by omega
      have q' : ¬ (120 < x6) := by omega
      generalize e_up J 212 (121 * n + u) (F x6) = J' at *
      clear k k1 k2 ih hw hf h205
      generalize (n : Int) = nn at *
      generalize F x6 = fv at *
      rw [E_V_eq]
      show e_tv E_C (E_V 254) e_t254_72 [192, p, dI, 0, nn, x5, x6, x7, x8, x9, x10, x11] J = _
      unfold e_t254_72
      simp [zq_a, zq_b, zq_c, zq_d, zq_e, zq_f, zq_g, zq_h, zq_i, zq_j, zq_k, zq_l, zq_m, zq_n, zq_o, zq_p, zq_q, zq_r, zq_s, zq_t, zq_u, zq_v, zq_w, zq_x, zq_y, zq_z, zq_A, zq_B, zq_C, zq_D, zq_E, zq_F, zq_G, zq_H, zq_I, zq_J, zq_K, zq_L, ↓zq_M, ↓zq_N, ↓zq_O, ↓zq_P, ↓zq_Q, ↓zq_R, zq_S, zq_T, zq_U, zq_V, zq_W, zq_X, zq_Y, zq_Z, zq_0, zq_1, zq_2, zq_3, zq_4, zq_5, ↓zq_6, ↓zq_7, ↓zq_8, ↓zq_9, ↓zq_aa, zq_ab, zq_ac, zq_ad, zq_ae, zq_af, zq_ag, ↓zq_ah, ↓zq_ai, ↓zq_aj, zq_ak, ↓zq_al, ↓zq_am, e_b1, e_b2, x_o1, x_o2, r_O25, r_O39, q, q', w1, w2, w3, g1, st]
  obtain ⟨K', y6, k, k1, k2⟩ := lp 121 0 0 K rfl rfl (fun w h => absurd h (Nat.not_lt_zero _)) (fun _ _ _ => rfl)
  exact ⟨K', y6, by rw [k, show ((n + 1 : Nat) : Int) = (n : Int) + 1 by omega], k1, k2⟩
theorem fq_24 {p dI : Int} {Q : Nat → Int} {F : Nat → Int → Int} (hc : c ≤ 40) (hd : d ≤ 40) (h : fq_G g C D c d K) (k252 : ∀ (K' : EM), (∀ id k, id ≠ 205 → id ≠ 206 → id ≠ 212 → K' id k = K id k) → ∀ (f : Nat) (k : Int), k = f → f < 1 + c + d → E_C 252 [192, p, dI, k] K' = some (Q f, K') ∧ E_C 249 [192, k] K' = some (0, ft_T K' (ft_dc C c f) (ft_br D c f)) ∧ ∃ K2, E_C 203 [192, p] (ft_T K' (ft_dc C c f) (ft_br D c f)) = some (0, K2) ∧ rx_sm (ft_T K' (ft_dc C c f) (ft_br D c f)) K2 ∧ ∀ u : Nat, u < 1000 → K2 205 u = F f (u : Int)) (x6 x7 x8 x9 x10 x11 : Int) : ∃ M', E_V 254 24 [192, p, dI, 0, 0, 0, x6, x7, x8, x9, x10, x11] K = some (if gd_n Q (1 + c + d) = 0 then -4 else ((lk_b (fun u => lk_g (fun k => F (ft_n Q (1 + c + d) k) (u : Int)) (gd_n Q (1 + c + d))) (gd_n Q (1 + c + d) + 1) 121).1 : Int), M') := by
  have w1 : e_w (1 + (c : Int)) = 1 + (c : Int) := a_w_id (by omega) (by omega)
  have w2 : e_w (1 + (c : Int) + (d : Int)) = 1 + (c : Int) + (d : Int) := a_w_id (by omega) (by omega)
  have lp : ∀ (t f : Nat) (x4 x5 x6 : Int) (J : EM), x5 = f → f + t = 1 + c + d → x4 = (gd_n Q f : Int) → (∀ id k, id ≠ 205 → id ≠ 206 → id ≠ 212 → J id k = K id k) → (∀ j, j < f → Q j ≠ 0 → ∀ u : Nat, u < 121 → J 212 (121 * gd_n Q j + u) = F j (u : Int)) → ∃ M', E_V 254 24 [192, p, dI, 0, x4, x5, x6, x7, x8, x9, x10, x11] J = some (if gd_n Q (1 + c + d) = 0 then -4 else ((lk_b (fun u => lk_g (fun k => F (ft_n Q (1 + c + d) k) (u : Int)) (gd_n Q (1 + c + d))) (gd_n Q (1 + c + d) + 1) 121).1 : Int), M') := by
    intro t
    induction t with
    | zero =>
      intro f x4 x5 x6 J h5 hf h4 hfr hr
      have e : f = 1 + c + d := by omega
      have gl := gd_n_le (D := Q) (1 + c + d)
      have k := fq_124 (p := p) (dI := dI) (n := gd_n Q (1 + c + d)) (V := fun u k => F (ft_n Q (1 + c + d) k) (u : Int)) (M := J) (by omega) (fun u k hu hk => by
        obtain ⟨j, j1, j2, j3⟩ := ft_ex (1 + c + d) hk
        show _ = F (ft_n Q (1 + c + d) k) (u : Int)
        rw [ft_n_e j2 j3 _ j1, ← j3]
        exact hr j (by omega) j2 u hu) 0 x8 x9 x10 x11
      refine ⟨J, ?_⟩
      rw [← k, ← e, ← h4]
      have h13 : J 192 13 = (c : Int) := (hfr _ _ (by decide) (by decide) (by decide)).trans h.2.2.2.1
      have h14 : J 192 14 = (d : Int) := (hfr _ _ (by decide) (by decide) (by decide)).trans h.2.2.2.2.1
      have q : ¬ (x5 < 1 + (c : Int) + (d : Int)) := by omega
      clear k gl e hr hfr h4 h k252
      generalize (c : Int) = cc at *
      generalize (d : Int) = dd at *
      rw [E_V_eq]
      show e_tv E_C (E_V 254) e_t254_24 [192, p, dI, 0, x4, x5, x6, x7, x8, x9, x10, x11] J = _
      unfold e_t254_24
      simp [zq_a, zq_b, zq_c, zq_d, zq_e, zq_f, zq_g, zq_h, zq_i, zq_j, zq_k, zq_l, zq_m, zq_n, zq_o, zq_p, zq_q, zq_r, zq_s, zq_t, zq_u, zq_v, zq_w, zq_x, zq_y, zq_z, zq_A, zq_B, zq_C, zq_D, zq_E, zq_F, zq_G, zq_H, zq_I, zq_J, zq_K, zq_L, ↓zq_M, ↓zq_N, ↓zq_O, ↓zq_P, ↓zq_Q, ↓zq_R, zq_S, zq_T, zq_U, zq_V, zq_W, zq_X, zq_Y, zq_Z, zq_0, zq_1, zq_2, zq_3, zq_4, zq_5, ↓zq_6, ↓zq_7, ↓zq_8, ↓zq_9, ↓zq_aa, zq_ab, zq_ac, zq_ad, zq_ae, zq_af, zq_ag, ↓zq_ah, ↓zq_ai, ↓zq_aj, zq_ak, ↓zq_al, ↓zq_am, e_b1, e_b2, x_o1, x_o2, r_F13, r_F14, h13, h14, w1, w2, q]
    | succ t ih =>
      intro f x4 x5 x6 J h5 hf h4 hfr hr
      have h13 : J 192 13 = (c : Int) := (hfr _ _ (by decide) (by decide) (by decide)).trans h.2.2.2.1
      have h14 : J 192 14 = (d : Int) := (hfr _ _ (by decide) (by decide) (by decide)).trans h.2.2.2.2.1
      obtain ⟨kq, kt, K2, kg, ksm, k205⟩ := k252 J hfr f x5 h5 (by omega)
      have gl := gd_n_le (D := Q) f
      have q : x5 < 1 + (c : Int) + (d : Int) := by omega
      have w3 : e_w (x5 + 1) = x5 + 1 := a_w_id (by omega) (by omega)
      have j108 : ∀ (y4 y6 : Int) (N : EM), E_V 254 108 [192, p, dI, 0, y4, x5, y6, x7, x8, x9, x10, x11] N = E_V 254 24 [192, p, dI, 0, y4, x5 + 1, y6, x7, x8, x9, x10, x11] N := fun y4 y6 N => by
        rw [E_V_eq]
        show e_tv E_C (E_V 254) e_t254_108 [192, p, dI, 0, y4, x5, y6, x7, x8, x9, x10, x11] N = _
        unfold e_t254_108
        simp [zq_a, zq_b, zq_c, zq_d, zq_e, zq_f, zq_g, zq_h, zq_i, zq_j, zq_k, zq_l, zq_m, zq_n, zq_o, zq_p, zq_q, zq_r, zq_s, zq_t, zq_u, zq_v, zq_w, zq_x, zq_y, zq_z, zq_A, zq_B, zq_C, zq_D, zq_E, zq_F, zq_G, zq_H, zq_I, zq_J, zq_K, zq_L, ↓zq_M, ↓zq_N, ↓zq_O, ↓zq_P, ↓zq_Q, ↓zq_R, zq_S, zq_T, zq_U, zq_V, zq_W, zq_X, zq_Y, zq_Z, zq_0, zq_1, zq_2, zq_3, zq_4, zq_5, ↓zq_6, ↓zq_7, ↓zq_8, ↓zq_9, ↓zq_aa, zq_ab, zq_ac, zq_ad, zq_ae, zq_af, zq_ag, ↓zq_ah, ↓zq_ai, ↓zq_aj, zq_ak, ↓zq_al, ↓zq_am, e_b1, e_b2, x_o1, x_o2, w3]
      by_cases z : Q f = 0
      · have eg : gd_n Q (f + 1) = gd_n Q f := gd_n_0 z
        obtain ⟨M', kk⟩ := ih (f + 1) x4 (x5 + 1) x6 J (by omega) (by omega) (by rw [eg]; exact h4) hfr (fun j hj hq => hr j (by
          rcases Nat.lt_or_ge j f with y | y
          · exact y
          · have e2 : j = f := by omega
            subst e2
            exact absurd z hq) hq)
        refine ⟨M', ?_⟩
        rw [← kk, ← j108]
        rw [z] at kq
        clear ih kk k252 h4 eg gl hr hfr h kt kg ksm k205
        generalize (c : Int) = cc at *
        generalize (d : Int) = dd at *
        rw [E_V_eq]
        show e_tv E_C (E_V 254) e_t254_24 [192, p, dI, 0, x4, x5, x6, x7, x8, x9, x10, x11] J = _
        unfold e_t254_24
        simp [zq_a, zq_b, zq_c, zq_d, zq_e, zq_f, zq_g, zq_h, zq_i, zq_j, zq_k, zq_l, zq_m, zq_n, zq_o, zq_p, zq_q, zq_r, zq_s, zq_t, zq_u, zq_v, zq_w, zq_x, zq_y, zq_z, zq_A, zq_B, zq_C, zq_D, zq_E, zq_F, zq_G, zq_H, zq_I, zq_J, zq_K, zq_L, ↓zq_M, ↓zq_N, ↓zq_O, ↓zq_P, ↓zq_Q, ↓zq_R, zq_S, zq_T, zq_U, zq_V, zq_W, zq_X, zq_Y, zq_Z, zq_0, zq_1, zq_2, zq_3, zq_4, zq_5, ↓zq_6, ↓zq_7, ↓zq_8, ↓zq_9, ↓zq_aa, zq_ab, zq_ac, zq_ad, zq_ae, zq_af, zq_ag, ↓zq_ah, ↓zq_ai, ↓zq_aj, zq_ak, ↓zq_al, ↓zq_am, e_b1, e_b2, x_o1, x_o2, r_F13, r_F14, h13, h14, w1, w2, q, kq]
      · have eg : gd_n Q (f + 1) = gd_n Q f + 1 := gd_n_1 z
        have f3 : ∀ id k, id ≠ 205 → id ≠ 206 → ft_T K2 (-1) (-1) id k = J id k := fun id k i1 i2 => by
          by_cases e : id = 192 ∧ (k = 23 ∨ k = 24)
          · obtain ⟨e1, e2⟩ := e
            subst e1
            rcases e2 with e2 | e2
            · subst e2
              rw [ft_T_23, hfr _ _ (by decide) (by decide) (by decide)]
              exact h.2.1.2.1.symm
            · subst e2
              rw [ft_T_24, hfr _ _ (by decide) (by decide) (by decide)]
              exact h.2.1.2.2.symm
          · rw [ft_T_n e, ksm _ _ i1 i2, ft_T_n e]
        have k250 : E_C 250 [192] K2 = some (0, ft_T K2 (-1) (-1)) := fq_250
        obtain ⟨K', y6, ky, k1, k2⟩ := fq_72 (p := p) (dI := dI) (x5 := x5) (x7 := x7) (x8 := x8) (x9 := x9) (x10 := x10) (x11 := x11) (n := gd_n Q f) (F := F f) (by omega) (K := ft_T K2 (-1) (-1)) (fun u hu => (ft_T_n (by omega)).trans (k205 u (by omega)))
        rw [← h4] at ky
        obtain ⟨M', kk⟩ := ih (f + 1) ((gd_n Q f + 1 : Nat) : Int) (x5 + 1) y6 K' (by omega) (by omega) (by rw [eg]) (fun id k i1 i2 i3 => (k2 id k (by omega)).trans ((f3 id k i1 i2).trans (hfr id k i1 i2 i3))) (fun j hj hq u hu => by
          rcases Nat.lt_or_ge j f with y | y
          · have lt : gd_n Q j + 1 ≤ gd_n Q f := by
              have a := gd_n_m (D := Q) (m := j + 1) (f - (j + 1))
              rw [gd_n_1 hq, show j + 1 + (f - (j + 1)) = f by omega] at a
              exact a
            rw [k2 _ _ (by omega), f3 _ _ (by decide) (by decide)]
            exact hr j y hq u hu
          · have e2 : j = f := by omega
            subst e2
            exact k1 u hu)
        refine ⟨M', ?_⟩
        rw [← kk, ← j108, ← ky]
        clear ih kk k252 h4 eg gl hr hfr h ksm k205 ky k1 k2 f3
        generalize ft_T K2 (-1) (-1) = K3 at *
        generalize ft_T J (ft_dc C c f) (ft_br D c f) = J1 at *
        generalize (c : Int) = cc at *
        generalize (d : Int) = dd at *
        generalize Q f = qf at *
        rw [E_V_eq]
        show e_tv E_C (E_V 254) e_t254_24 [192, p, dI, 0, x4, x5, x6, x7, x8, x9, x10, x11] J = _
        unfold e_t254_24
        simp [zq_a, zq_b, zq_c, zq_d, zq_e, zq_f, zq_g, zq_h, zq_i, zq_j, zq_k, zq_l, zq_m, zq_n, zq_o, zq_p, zq_q, zq_r, zq_s, zq_t, zq_u, zq_v, zq_w, zq_x, zq_y, zq_z, zq_A, zq_B, zq_C, zq_D, zq_E, zq_F, zq_G, zq_H, zq_I, zq_J, zq_K, zq_L, ↓zq_M, ↓zq_N, ↓zq_O, ↓zq_P, ↓zq_Q, ↓zq_R, zq_S, zq_T, zq_U, zq_V, zq_W, zq_X, zq_Y, zq_Z, zq_0, zq_1, zq_2, zq_3, zq_4, zq_5, ↓zq_6, ↓zq_7, ↓zq_8, ↓zq_9, ↓zq_aa, zq_ab, zq_ac, zq_ad, zq_ae, zq_af, zq_ag, ↓zq_ah, ↓zq_ai, ↓zq_aj, zq_ak, ↓zq_al, ↓zq_am, e_b1, e_b2, x_o1, x_o2, r_F13, r_F14, h13, h14, w1, w2, q, kq, z, kt, kg, k250]
  exact lp (1 + c + d) 0 0 0 x6 K rfl (by omega) rfl (fun _ _ _ _ _ => rfl) (fun j hj => absurd hj (Nat.not_lt_zero _))
end FXK
