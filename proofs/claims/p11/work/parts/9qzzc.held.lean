section
/-! held by the reference: exactly -/
section RHL
variable {SH WM : Int → Int} {DI : Int → Nat → Int} {M : EM}
theorem rx_199 {p c : Int} {y n : Nat} (hm : rx_md M SH WM DI) (hv : hd_cvs (r_G M)) (hp : 0 ≤ p ∧ p < 40) (hp1 : p ≤ r_G M 1198) (hn : r_G M (28 * p + 2) = n) (hn8 : n ≤ 8) (hc : 0 ≤ c ∧ c ≤ 2000) (hk : ∀ k, 0 ≤ k → k < r_G M (28 * p + 2) → r_cl (r_G M) p (r_G M (28 * p + 3 + k))) {x4 : Int} (h4 : x4 = y) : E_C 199 [192, p, x4, c] M = some (cu_gs (fun k => r_G M (28 * p + 11 + (k : Int))) (fun k => cu_v (r_G M) SH WM (r_G M (28 * p + 3 + (k : Int))) c) y n, M) := by
  have k := rx_group (y := y) hm hv hp hp1 hn hn8 hc hk n 0 0 0 rfl (by omega) rfl
  rw [← h4] at k ⊢
  rw [r_ent (show e_rok 199 [192, p, x4, c] = true from decide_eq_true r_ref)]
  show e_tv E_C (E_V 199) e_t199_0 [192, p, x4, c, 0, 0] M = _
  unfold e_t199_0
  simp [zq_a, zq_b, zq_c, zq_d, zq_e, zq_f, zq_g, zq_h, zq_i, zq_j, zq_k, zq_l, zq_m, zq_n, zq_o, zq_p, zq_q, zq_r, zq_s, zq_t, zq_u, zq_v, zq_w, zq_x, zq_y, zq_z, zq_A, zq_B, zq_C, zq_D, zq_E, zq_F, zq_G, zq_H, zq_I, zq_J, zq_K, zq_L, ↓zq_M, ↓zq_N, ↓zq_O, ↓zq_P, ↓zq_Q, ↓zq_R, zq_S, zq_T, zq_U, zq_V, zq_W, zq_X, zq_Y, zq_Z, zq_0, zq_1, zq_2, zq_3, zq_4, zq_5, ↓zq_6, ↓zq_7, ↓zq_8, ↓zq_9, ↓zq_aa, zq_ab, zq_ac, zq_ad, zq_ae, zq_af, zq_ag, ↓zq_ah, ↓zq_ai, ↓zq_aj, zq_ak, ↓zq_al, ↓zq_am, e_b1, e_b2, x_o1, x_o2, k]
/-- the reference: DIODES that let pass -/
theorem rx_213p {p c w x4 x5 x6 : Int} {n gr : Nat} (hm : rx_md M SH WM DI) (hv : hd_cvs (r_G M)) (hp : 0 ≤ p ∧ p < 40) (hp1 : p ≤ r_G M 1198) (hn : r_G M (28 * p + 2) = n) (hn8 : n ≤ 8) (hg : r_G M (28 * p + 19) = gr) (hg8 : gr ≤ 8) (hc : 0 ≤ c ∧ c ≤ 2000) (hk : ∀ k, 0 ≤ k → k < r_G M (28 * p + 2) → r_cl (r_G M) p (r_G M (28 * p + 3 + k))) (x9 : Int) : ∀ (d m : Nat) (x7 x8 : Int), x8 = m → m + d = gr → x7 = hl_p (fun k => r_G M (28 * p + 11 + (k : Int))) (fun k => cu_v (r_G M) SH WM (r_G M (28 * p + 3 + (k : Int))) c) (DI p) n m → E_V 213 154 [192, p, c, w, x4, x5, x6, x7, x8, x9] M = some (if w = 0 then x4 else if w = 1 then hl_p (fun k => r_G M (28 * p + 11 + (k : Int))) (fun k => cu_v (r_G M) SH WM (r_G M (28 * p + 3 + (k : Int))) c) (DI p) n gr else x6, M) := by
  have w1 : e_w (28 * p) = 28 * p := a_w_id (by omega) (by omega)
  have w2 : e_w (28 * p + 19) = 28 * p + 19 := a_w_id (by omega) (by omega)
  have l1 : e_op 60 [193, 28 * p + 19] M = some (r_G M (28 * p + 19)) := r_rd (by omega) (by omega)
  intro d
  induction d with
  | zero =>
    intro m x7 x8 hx hd h7
    have e : m = gr := by omega
    subst e
    rw [← h7]
    have q : ¬ (x8 < r_G M (28 * p + 19)) := by omega
    clear hm hv hk
    by_cases c0 : w = 0
    · rw [if_pos c0]
      rw [E_V_eq]
      show e_tv E_C (E_V 213) e_t213_154 [192, p, c, w, x4, x5, x6, x7, x8, x9] M = _
      unfold e_t213_154
      simp [zq_a, zq_b, zq_c, zq_d, zq_e, zq_f, zq_g, zq_h, zq_i, zq_j, zq_k, zq_l, zq_m, zq_n, zq_o, zq_p, zq_q, zq_r, zq_s, zq_t, zq_u, zq_v, zq_w, zq_x, zq_y, zq_z, zq_A, zq_B, zq_C, zq_D, zq_E, zq_F, zq_G, zq_H, zq_I, zq_J, zq_K, zq_L, ↓zq_M, ↓zq_N, ↓zq_O, ↓zq_P, ↓zq_Q, ↓zq_R, zq_S, zq_T, zq_U, zq_V, zq_W, zq_X, zq_Y, zq_Z, zq_0, zq_1, zq_2, zq_3, zq_4, zq_5, ↓zq_6, ↓zq_7, ↓zq_8, ↓zq_9, ↓zq_aa, zq_ab, zq_ac, zq_ad, zq_ae, zq_af, zq_ag, ↓zq_ah, ↓zq_ai, ↓zq_aj, zq_ak, ↓zq_al, ↓zq_am, e_b1, e_b2, x_o1, x_o2, r_O0, w1, w2, l1, q, c0]
    · rw [if_neg c0]
      by_cases c1 : w = 1
      · rw [if_pos c1]
        rw [E_V_eq]
        show e_tv E_C (E_V 213) e_t213_154 [192, p, c, w, x4, x5, x6, x7, x8, x9] M = _
        unfold e_t213_154
        simp [zq_a, zq_b, zq_c, zq_d, zq_e, zq_f, zq_g, zq_h, zq_i, zq_j, zq_k, zq_l, zq_m, zq_n, zq_o, zq_p, zq_q, zq_r, zq_s, zq_t, zq_u, zq_v, zq_w, zq_x, zq_y, zq_z, zq_A, zq_B, zq_C, zq_D, zq_E, zq_F, zq_G, zq_H, zq_I, zq_J, zq_K, zq_L, ↓zq_M, ↓zq_N, ↓zq_O, ↓zq_P, ↓zq_Q, ↓zq_R, zq_S, zq_T, zq_U, zq_V, zq_W, zq_X, zq_Y, zq_Z, zq_0, zq_1, zq_2, zq_3, zq_4, zq_5, ↓zq_6, ↓zq_7, ↓zq_8, ↓zq_9, ↓zq_aa, zq_ab, zq_ac, zq_ad, zq_ae, zq_af, zq_ag, ↓zq_ah, ↓zq_ai, ↓zq_aj, zq_ak, ↓zq_al, ↓zq_am, e_b1, e_b2, x_o1, x_o2, r_O0, w1, w2, l1, q, c1]
      · rw [if_neg c1]
        rw [E_V_eq]
        show e_tv E_C (E_V 213) e_t213_154 [192, p, c, w, x4, x5, x6, x7, x8, x9] M = _
        unfold e_t213_154
        simp [zq_a, zq_b, zq_c, zq_d, zq_e, zq_f, zq_g, zq_h, zq_i, zq_j, zq_k, zq_l, zq_m, zq_n, zq_o, zq_p, zq_q, zq_r, zq_s, zq_t, zq_u, zq_v, zq_w, zq_x, zq_y, zq_z, zq_A, zq_B, zq_C, zq_D, zq_E, zq_F, zq_G, zq_H, zq_I, zq_J, zq_K, zq_L, ↓zq_M, ↓zq_N, ↓zq_O, ↓zq_P, ↓zq_Q, ↓zq_R, zq_S, zq_T, zq_U, zq_V, zq_W, zq_X, zq_Y, zq_Z, zq_0, zq_1, zq_2, zq_3, zq_4, zq_5, ↓zq_6, ↓zq_7, ↓zq_8, ↓zq_9, ↓zq_aa, zq_ab, zq_ac, zq_ad, zq_ae, zq_af, zq_ag, ↓zq_ah, ↓zq_ai, ↓zq_aj, zq_ak, ↓zq_al, ↓zq_am, e_b1, e_b2, x_o1, x_o2, r_O0, w1, w2, l1, q, c0, c1]
  | succ d ih =>
    intro m x7 x8 hx hd h7
    have q : x8 < r_G M (28 * p + 19) := by omega
    have ku := rx_199 (y := m) hm hv hp hp1 hn hn8 hc hk hx
    obtain ⟨kd0, hd01⟩ := hm.2 p m hp.1 hp.2 (by omega)
    have kd : E_C 200 [192, p, x8] M = some (DI p m, M) := by rw [hx]; exact kd0
    have bp := hl_p_bd (G := fun k : Nat => r_G M (28 * p + 11 + (k : Int))) (v := fun k : Nat => cu_v (r_G M) SH WM (r_G M (28 * p + 3 + (k : Int))) c) (D := DI p) (n := n) m
    rw [← h7] at bp
    have es : hl_p (fun k => r_G M (28 * p + 11 + (k : Int))) (fun k => cu_v (r_G M) SH WM (r_G M (28 * p + 3 + (k : Int))) c) (DI p) n (m + 1) = x7 + (if DI p m ≠ 0 ∧ cu_gs (fun k => r_G M (28 * p + 11 + (k : Int))) (fun k => cu_v (r_G M) SH WM (r_G M (28 * p + 3 + (k : Int))) c) m n < -1 then 1 else 0) := by rw [h7]; rfl
    have k := ih (m + 1) _ (x8 + 1) (by omega) (by omega) es.symm
    have w3 : e_w (x8 + 1) = x8 + 1 := a_w_id (by omega) (by omega)
    have w4 : e_w (x7 + 1) = x7 + 1 := a_w_id (by omega) (by omega)
    have w5 : e_w x7 = x7 := a_w_id (by omega) (by omega)
    rw [← k]
    clear k ih es h7 hm hv hk kd0
    generalize cu_gs (fun k => r_G M (28 * p + 11 + (k : Int))) (fun k => cu_v (r_G M) SH WM (r_G M (28 * p + 3 + (k : Int))) c) m n = t at *
    generalize DI p m = dd at *
    by_cases c1 : dd = 0
    · rw [if_neg (fun e => e.1 c1), Int.add_zero]
      rw [E_V_eq]
      show e_tv E_C (E_V 213) e_t213_154 [192, p, c, w, x4, x5, x6, x7, x8, x9] M = _
      unfold e_t213_154
      simp [zq_a, zq_b, zq_c, zq_d, zq_e, zq_f, zq_g, zq_h, zq_i, zq_j, zq_k, zq_l, zq_m, zq_n, zq_o, zq_p, zq_q, zq_r, zq_s, zq_t, zq_u, zq_v, zq_w, zq_x, zq_y, zq_z, zq_A, zq_B, zq_C, zq_D, zq_E, zq_F, zq_G, zq_H, zq_I, zq_J, zq_K, zq_L, ↓zq_M, ↓zq_N, ↓zq_O, ↓zq_P, ↓zq_Q, ↓zq_R, zq_S, zq_T, zq_U, zq_V, zq_W, zq_X, zq_Y, zq_Z, zq_0, zq_1, zq_2, zq_3, zq_4, zq_5, ↓zq_6, ↓zq_7, ↓zq_8, ↓zq_9, ↓zq_aa, zq_ab, zq_ac, zq_ad, zq_ae, zq_af, zq_ag, ↓zq_ah, ↓zq_ai, ↓zq_aj, zq_ak, ↓zq_al, ↓zq_am, e_b1, e_b2, x_o1, x_o2, r_O0, w1, w2, w3, w5, l1, q, kd, c1]
    · rcases x_lt t (-1) with ⟨c2, c2_n⟩ | ⟨c2, c2_n⟩
      · rw [if_pos ⟨c1, c2⟩]
        rw [E_V_eq]
        show e_tv E_C (E_V 213) e_t213_154 [192, p, c, w, x4, x5, x6, x7, x8, x9] M = _
        unfold e_t213_154
        simp [zq_a, zq_b, zq_c, zq_d, zq_e, zq_f, zq_g, zq_h, zq_i, zq_j, zq_k, zq_l, zq_m, zq_n, zq_o, zq_p, zq_q, zq_r, zq_s, zq_t, zq_u, zq_v, zq_w, zq_x, zq_y, zq_z, zq_A, zq_B, zq_C, zq_D, zq_E, zq_F, zq_G, zq_H, zq_I, zq_J, zq_K, zq_L, ↓zq_M, ↓zq_N, ↓zq_O, ↓zq_P, ↓zq_Q, ↓zq_R, zq_S, zq_T, zq_U, zq_V, zq_W, zq_X, zq_Y, zq_Z, zq_0, zq_1, zq_2, zq_3, zq_4, zq_5, ↓zq_6, ↓zq_7, ↓zq_8, ↓zq_9, ↓zq_aa, zq_ab, zq_ac, zq_ad, zq_ae, zq_af, zq_ag, ↓zq_ah, ↓zq_ai, ↓zq_aj, zq_ak, ↓zq_al, ↓zq_am, e_b1, e_b2, x_o1, x_o2, r_O0, w1, w2, w3, w4, l1, q, kd, ku, c1, c2, c2_n]
      · rw [if_neg (fun e => c2 e.2), Int.add_zero]
        rw [E_V_eq]
        show e_tv E_C (E_V 213) e_t213_154 [192, p, c, w, x4, x5, x6, x7, x8, x9] M = _
        unfold e_t213_154
        simp [zq_a, zq_b, zq_c, zq_d, zq_e, zq_f, zq_g, zq_h, zq_i, zq_j, zq_k, zq_l, zq_m, zq_n, zq_o, zq_p, zq_q, zq_r, zq_s, zq_t, zq_u, zq_v, zq_w, zq_x, zq_y, zq_z, zq_A, zq_B, zq_C, zq_D, zq_E, zq_F, zq_G, zq_H, zq_I, zq_J, zq_K, zq_L, ↓zq_M, ↓zq_N, ↓zq_O, ↓zq_P, ↓zq_Q, ↓zq_R, zq_S, zq_T, zq_U, zq_V, zq_W, zq_X, zq_Y, zq_Z, zq_0, zq_1, zq_2, zq_3, zq_4, zq_5, ↓zq_6, ↓zq_7, ↓zq_8, ↓zq_9, ↓zq_aa, zq_ab, zq_ac, zq_ad, zq_ae, zq_af, zq_ag, ↓zq_ah, ↓zq_ai, ↓zq_aj, zq_ak, ↓zq_al, ↓zq_am, e_b1, e_b2, x_o1, x_o2, r_O0, w1, w2, w3, w5, l1, q, kd, ku, c1, c2, c2_n]
/-- the reference: all CELLS looked at -/
theorem rx_213c {p c w : Int} {n : Nat} (hm : rx_md M SH WM DI) (hv : hd_cvs (r_G M)) (hp : 0 ≤ p ∧ p < 40) (hp1 : p ≤ r_G M 1198) (hn : r_G M (28 * p + 2) = n) (hn8 : n ≤ 8) (hc : 0 ≤ c ∧ c ≤ 2000) (hk : ∀ k, 0 ≤ k → k < r_G M (28 * p + 2) → r_cl (r_G M) p (r_G M (28 * p + 3 + k))) : ∀ (d j : Nat) (x4 x5 x6 x7 x8 x9 : Int), x7 = j → j + d = n → (j = 0 → x4 = -1) → (0 < j → x4 = r_G M (28 * p + 3 + (hl_m (fun k => cu_v (r_G M) SH WM (r_G M (28 * p + 3 + (k : Int))) c) (j - 1) : Int)) ∧ x5 = cu_v (r_G M) SH WM (r_G M (28 * p + 3 + (hl_m (fun k => cu_v (r_G M) SH WM (r_G M (28 * p + 3 + (k : Int))) c) (j - 1) : Int))) c) → x6 = hl_h (fun k => cu_cv (r_G M) (SH (r_G M (28 * p + 3 + (k : Int)))) (r_G M (28 * p + 3 + (k : Int))) 0) c j → ∃ y4 y5 y9, E_V 213 58 [192, p, c, w, x4, x5, x6, x7, x8, x9] M = E_V 213 154 [192, p, c, w, y4, y5, hl_h (fun k => cu_cv (r_G M) (SH (r_G M (28 * p + 3 + (k : Int)))) (r_G M (28 * p + 3 + (k : Int))) 0) c n, 0, 0, y9] M ∧ (0 < n → y4 = r_G M (28 * p + 3 + (hl_m (fun k => cu_v (r_G M) SH WM (r_G M (28 * p + 3 + (k : Int))) c) (n - 1) : Int))) := by
  have km : E_C 171 [192, p] M = some (r_G M (28 * p + 2), M) := r_many hp
  intro d
  induction d with
  | zero =>
    intro j x4 x5 x6 x7 x8 x9 hx hd h0 h1 h6
    have e : j = n := by omega
    subst e
    refine ⟨x4, x5, x9, ?_, fun h => (h1 h).1⟩
    rw [← h6]
    have q : ¬ (x7 < r_G M (28 * p + 2)) := by omega
    clear hm hv hk h1
    rw [E_V_eq]
    show e_tv E_C (E_V 213) e_t213_58 [192, p, c, w, x4, x5, x6, x7, x8, x9] M = _
    unfold e_t213_58
    simp [zq_a, zq_b, zq_c, zq_d, zq_e, zq_f, zq_g, zq_h, zq_i, zq_j, zq_k, zq_l, zq_m, zq_n, zq_o, zq_p, zq_q, zq_r, zq_s, zq_t, zq_u, zq_v, zq_w, zq_x, zq_y, zq_z, zq_A, zq_B, zq_C, zq_D, zq_E, zq_F, zq_G, zq_H, zq_I, zq_J, zq_K, zq_L, ↓zq_M, ↓zq_N, ↓zq_O, ↓zq_P, ↓zq_Q, ↓zq_R, zq_S, zq_T, zq_U, zq_V, zq_W, zq_X, zq_Y, zq_Z, zq_0, zq_1, zq_2, zq_3, zq_4, zq_5, ↓zq_6, ↓zq_7, ↓zq_8, ↓zq_9, ↓zq_aa, zq_ab, zq_ac, zq_ad, zq_ae, zq_af, zq_ag, ↓zq_ah, ↓zq_ai, ↓zq_aj, zq_ak, ↓zq_al, ↓zq_am, e_b1, e_b2, x_o1, x_o2, km, q]
  | succ d ih =>
    intro j x4 x5 x6 x7 x8 x9 hx hd h0 h1 h6
    have q : x7 < r_G M (28 * p + 2) := by omega
    have bh := hl_h_bd (a := fun k => cu_cv (r_G M) (SH (r_G M (28 * p + 3 + (k : Int)))) (r_G M (28 * p + 3 + (k : Int))) 0) (c := c) j
    rw [← h6] at bh
    have ko : E_C 172 [192, p, x7] M = some (r_G M (28 * p + 3 + x7), M) := r_of hp ⟨by omega, by omega⟩
    have hcl := hk x7 (by omega) q
    have q0 := hcl.1
    have q40 : r_G M (28 * p + 3 + x7) < 40 := by have := hcl.2.1; omega
    obtain ⟨⟨ks, s1, s2⟩, -⟩ := hm.1 p _ (by omega) hp1 hcl
    have hcv := hv _ hcl.1 (by have := hcl.2.1; omega) hcl.2.2.1
    have kv := rx_cell (c := c) hm (by omega) hp1 hcl hcv hc
    obtain ⟨n', hn'⟩ : ∃ n' : Nat, r_G M (28 * r_G M (28 * p + 3 + x7) + 2) = n' := by
      obtain ⟨n', hh⟩ := hcv
      exact ⟨n', hh.2.2.1⟩
    obtain ⟨b1, b2, b3, -⟩ := hd_cv_bd hcv hn'
    have kc := rx_cur (M := M) (q := r_G M (28 * p + 3 + x7)) (i := 0) (s := SH (r_G M (28 * p + 3 + x7))) ⟨q0, q40⟩ (by decide) (b3 0 (by omega)).2 ⟨s1, s2⟩
    have kc : E_C 194 [192, r_G M (28 * p + 3 + x7), 0, SH (r_G M (28 * p + 3 + x7))] M = some (cu_cv (r_G M) (SH (r_G M (28 * p + 3 + x7))) (r_G M (28 * p + 3 + x7)) 0, M) := kc
    have eh : hl_h (fun k => cu_cv (r_G M) (SH (r_G M (28 * p + 3 + (k : Int)))) (r_G M (28 * p + 3 + (k : Int))) 0) c (j + 1) = x6 + (if cu_cv (r_G M) (SH (r_G M (28 * p + 3 + x7))) (r_G M (28 * p + 3 + x7)) 0 < c then 1 else 0) := by rw [h6, hx]; rfl
    have w3 : e_w (x7 + 1) = x7 + 1 := a_w_id (by omega) (by omega)
    have w4 : e_w (x6 + 1) = x6 + 1 := a_w_id (by omega) (by omega)
    have w5 : e_w x6 = x6 := a_w_id (by omega) (by omega)
    have s142 : ∀ a b f y z, E_V 213 142 [192, p, c, w, a, b, f, x7, y, z] M = E_V 213 58 [192, p, c, w, a, b, f, x7 + 1, y, z] M := fun a b f y z => by
      rw [E_V_eq]
      show e_tv E_C (E_V 213) e_t213_142 [192, p, c, w, a, b, f, x7, y, z] M = _
      unfold e_t213_142
      simp [zq_a, zq_b, zq_c, zq_d, zq_e, zq_f, zq_g, zq_h, zq_i, zq_j, zq_k, zq_l, zq_m, zq_n, zq_o, zq_p, zq_q, zq_r, zq_s, zq_t, zq_u, zq_v, zq_w, zq_x, zq_y, zq_z, zq_A, zq_B, zq_C, zq_D, zq_E, zq_F, zq_G, zq_H, zq_I, zq_J, zq_K, zq_L, ↓zq_M, ↓zq_N, ↓zq_O, ↓zq_P, ↓zq_Q, ↓zq_R, zq_S, zq_T, zq_U, zq_V, zq_W, zq_X, zq_Y, zq_Z, zq_0, zq_1, zq_2, zq_3, zq_4, zq_5, ↓zq_6, ↓zq_7, ↓zq_8, ↓zq_9, ↓zq_aa, zq_ab, zq_ac, zq_ad, zq_ae, zq_af, zq_ag, ↓zq_ah, ↓zq_ai, ↓zq_aj, zq_ak, ↓zq_al, ↓zq_am, e_b1, e_b2, x_o1, x_o2, w3]
    -- one step: what stands behind it
    have st : E_V 213 58 [192, p, c, w, x4, x5, x6, x7, x8, x9] M = E_V 213 58 [192, p, c, w, (if 0 ≤ x4 ∧ x5 ≤ cu_v (r_G M) SH WM (r_G M (28 * p + 3 + x7)) c then x4 else r_G M (28 * p + 3 + x7)), (if 0 ≤ x4 ∧ x5 ≤ cu_v (r_G M) SH WM (r_G M (28 * p + 3 + x7)) c then x5 else cu_v (r_G M) SH WM (r_G M (28 * p + 3 + x7)) c), x6 + (if cu_cv (r_G M) (SH (r_G M (28 * p + 3 + x7))) (r_G M (28 * p + 3 + x7)) 0 < c then 1 else 0), x7 + 1, r_G M (28 * p + 3 + x7), cu_v (r_G M) SH WM (r_G M (28 * p + 3 + x7)) c] M := by
      clear ih h0 h1 h6 hm hv hk eh hcl hcv b3 hn'
      generalize cu_cv (r_G M) (SH (r_G M (28 * p + 3 + x7))) (r_G M (28 * p + 3 + x7)) 0 = a at kc ⊢
      generalize cu_v (r_G M) SH WM (r_G M (28 * p + 3 + x7)) c = v at kv ⊢
      generalize SH (r_G M (28 * p + 3 + x7)) = sh at *
      generalize r_G M (28 * p + 3 + x7) = qq at *
      generalize r_G M (28 * p + 2) = mm at *
      have hb : e_w (x6 + (if a < c then 1 else 0)) = x6 + (if a < c then 1 else 0) := by
        rcases x_lt a c with ⟨c1, c1_n⟩ | ⟨c1, c1_n⟩
        · rw [if_pos c1]; exact w4
        · rw [if_neg (by omega), Int.add_zero]; exact w5
      rw [← s142]
      generalize hf : x6 + (if a < c then 1 else 0) = f at hb ⊢
      rcases x_lt a c with ⟨c1, c1_n⟩ | ⟨c1, c1_n⟩
      · rw [if_pos c1] at hf
        rw [hf] at w4
        rcases x_le 0 x4 with ⟨c2, c2_n⟩ | ⟨c2, c2_n⟩
        · rcases x_le x5 v with ⟨c3, c3_n⟩ | ⟨c3, c3_n⟩
          · rw [if_pos ⟨c2, c3⟩, if_pos ⟨c2, c3⟩]
            rw [E_V_eq]
            show e_tv E_C (E_V 213) e_t213_58 [192, p, c, w, x4, x5, x6, x7, x8, x9] M = _
            unfold e_t213_58
            simp [zq_a, zq_b, zq_c, zq_d, zq_e, zq_f, zq_g, zq_h, zq_i, zq_j, zq_k, zq_l, zq_m, zq_n, zq_o, zq_p, zq_q, zq_r, zq_s, zq_t, zq_u, zq_v, zq_w, zq_x, zq_y, zq_z, zq_A, zq_B, zq_C, zq_D, zq_E, zq_F, zq_G, zq_H, zq_I, zq_J, zq_K, zq_L, ↓zq_M, ↓zq_N, ↓zq_O, ↓zq_P, ↓zq_Q, ↓zq_R, zq_S, zq_T, zq_U, zq_V, zq_W, zq_X, zq_Y, zq_Z, zq_0, zq_1, zq_2, zq_3, zq_4, zq_5, ↓zq_6, ↓zq_7, ↓zq_8, ↓zq_9, ↓zq_aa, zq_ab, zq_ac, zq_ad, zq_ae, zq_af, zq_ag, ↓zq_ah, ↓zq_ai, ↓zq_aj, zq_ak, ↓zq_al, ↓zq_am, e_b1, e_b2, x_o1, x_o2, km, q, ko, ks, kv, kc, c1, c1_n, c2, c2_n, c3, c3_n, hf, w4]
          · rw [if_neg (fun e => by omega), if_neg (fun e => by omega)]
            rw [E_V_eq]
            show e_tv E_C (E_V 213) e_t213_58 [192, p, c, w, x4, x5, x6, x7, x8, x9] M = _
            unfold e_t213_58
            simp [zq_a, zq_b, zq_c, zq_d, zq_e, zq_f, zq_g, zq_h, zq_i, zq_j, zq_k, zq_l, zq_m, zq_n, zq_o, zq_p, zq_q, zq_r, zq_s, zq_t, zq_u, zq_v, zq_w, zq_x, zq_y, zq_z, zq_A, zq_B, zq_C, zq_D, zq_E, zq_F, zq_G, zq_H, zq_I, zq_J, zq_K, zq_L, ↓zq_M, ↓zq_N, ↓zq_O, ↓zq_P, ↓zq_Q, ↓zq_R, zq_S, zq_T, zq_U, zq_V, zq_W, zq_X, zq_Y, zq_Z, zq_0, zq_1, zq_2, zq_3, zq_4, zq_5, ↓zq_6, ↓zq_7, ↓zq_8, ↓zq_9, ↓zq_aa, zq_ab, zq_ac, zq_ad, zq_ae, zq_af, zq_ag, ↓zq_ah, ↓zq_ai, ↓zq_aj, zq_ak, ↓zq_al, ↓zq_am, e_b1, e_b2, x_o1, x_o2, km, q, ko, ks, kv, kc, c1, c1_n, c2, c2_n, c3, c3_n, hf, w4]
        · rw [if_neg (fun e => by omega), if_neg (fun e => by omega)]
          rw [E_V_eq]
          show e_tv E_C (E_V 213) e_t213_58 [192, p, c, w, x4, x5, x6, x7, x8, x9] M = _
          unfold e_t213_58
          simp [zq_a, zq_b, zq_c, zq_d, zq_e, zq_f, zq_g, zq_h, zq_i, zq_j, zq_k, zq_l, zq_m, zq_n, zq_o, zq_p, zq_q, zq_r, zq_s, zq_t, zq_u, zq_v, zq_w, zq_x, zq_y, zq_z, zq_A, zq_B, zq_C, zq_D, zq_E, zq_F, zq_G, zq_H, zq_I, zq_J, zq_K, zq_L, ↓zq_M, ↓zq_N, ↓zq_O, ↓zq_P, ↓zq_Q, ↓zq_R, zq_S, zq_T, zq_U, zq_V, zq_W, zq_X, zq_Y, zq_Z, zq_0, zq_1, zq_2, zq_3, zq_4, zq_5, ↓zq_6, ↓zq_7, ↓zq_8, ↓zq_9, ↓zq_aa, zq_ab, zq_ac, zq_ad, zq_ae, zq_af, zq_ag, ↓zq_ah, ↓zq_ai, ↓zq_aj, zq_ak, ↓zq_al, ↓zq_am, e_b1, e_b2, x_o1, x_o2, km, q, ko, ks, kv, kc, c1, c1_n, c2, c2_n, hf, w4]
      · rw [if_neg (by omega), Int.add_zero] at hf
        rw [hf] at w5
        rcases x_le 0 x4 with ⟨c2, c2_n⟩ | ⟨c2, c2_n⟩
        · rcases x_le x5 v with ⟨c3, c3_n⟩ | ⟨c3, c3_n⟩
          · rw [if_pos ⟨c2, c3⟩, if_pos ⟨c2, c3⟩]
            rw [E_V_eq]
            show e_tv E_C (E_V 213) e_t213_58 [192, p, c, w, x4, x5, x6, x7, x8, x9] M = _
            unfold e_t213_58
            simp [zq_a, zq_b, zq_c, zq_d, zq_e, zq_f, zq_g, zq_h, zq_i, zq_j, zq_k, zq_l, zq_m, zq_n, zq_o, zq_p, zq_q, zq_r, zq_s, zq_t, zq_u, zq_v, zq_w, zq_x, zq_y, zq_z, zq_A, zq_B, zq_C, zq_D, zq_E, zq_F, zq_G, zq_H, zq_I, zq_J, zq_K, zq_L, ↓zq_M, ↓zq_N, ↓zq_O, ↓zq_P, ↓zq_Q, ↓zq_R, zq_S, zq_T, zq_U, zq_V, zq_W, zq_X, zq_Y, zq_Z, zq_0, zq_1, zq_2, zq_3, zq_4, zq_5, ↓zq_6, ↓zq_7, ↓zq_8, ↓zq_9, ↓zq_aa, zq_ab, zq_ac, zq_ad, zq_ae, zq_af, zq_ag, ↓zq_ah, ↓zq_ai, ↓zq_aj, zq_ak, ↓zq_al, ↓zq_am, e_b1, e_b2, x_o1, x_o2, km, q, ko, ks, kv, kc, c1, c1_n, c2, c2_n, c3, c3_n, hf, w5]
          · rw [if_neg (fun e => by omega), if_neg (fun e => by omega)]
            rw [E_V_eq]
            show e_tv E_C (E_V 213) e_t213_58 [192, p, c, w, x4, x5, x6, x7, x8, x9] M = _
            unfold e_t213_58
            simp [zq_a, zq_b, zq_c, zq_d, zq_e, zq_f, zq_g, zq_h, zq_i, zq_j, zq_k, zq_l, zq_m, zq_n, zq_o, zq_p, zq_q, zq_r, zq_s, zq_t, zq_u, zq_v, zq_w, zq_x, zq_y, zq_z, zq_A, zq_B, zq_C, zq_D, zq_E, zq_F, zq_G, zq_H, zq_I, zq_J, zq_K, zq_L, ↓zq_M, ↓zq_N, ↓zq_O, ↓zq_P, ↓zq_Q, ↓zq_R, zq_S, zq_T, zq_U, zq_V, zq_W, zq_X, zq_Y, zq_Z, zq_0, zq_1, zq_2, zq_3, zq_4, zq_5, ↓zq_6, ↓zq_7, ↓zq_8, ↓zq_9, ↓zq_aa, zq_ab, zq_ac, zq_ad, zq_ae, zq_af, zq_ag, ↓zq_ah, ↓zq_ai, ↓zq_aj, zq_ak, ↓zq_al, ↓zq_am, e_b1, e_b2, x_o1, x_o2, km, q, ko, ks, kv, kc, c1, c1_n, c2, c2_n, c3, c3_n, hf, w5]
        · rw [if_neg (fun e => by omega), if_neg (fun e => by omega)]
          rw [E_V_eq]
          show e_tv E_C (E_V 213) e_t213_58 [192, p, c, w, x4, x5, x6, x7, x8, x9] M = _
          unfold e_t213_58
          simp [zq_a, zq_b, zq_c, zq_d, zq_e, zq_f, zq_g, zq_h, zq_i, zq_j, zq_k, zq_l, zq_m, zq_n, zq_o, zq_p, zq_q, zq_r, zq_s, zq_t, zq_u, zq_v, zq_w, zq_x, zq_y, zq_z, zq_A, zq_B, zq_C, zq_D, zq_E, zq_F, zq_G, zq_H, zq_I, zq_J, zq_K, zq_L, ↓zq_M, ↓zq_N, ↓zq_O, ↓zq_P, ↓zq_Q, ↓zq_R, zq_S, zq_T, zq_U, zq_V, zq_W, zq_X, zq_Y, zq_Z, zq_0, zq_1, zq_2, zq_3, zq_4, zq_5, ↓zq_6, ↓zq_7, ↓zq_8, ↓zq_9, ↓zq_aa, zq_ab, zq_ac, zq_ad, zq_ae, zq_af, zq_ag, ↓zq_ah, ↓zq_ai, ↓zq_aj, zq_ak, ↓zq_al, ↓zq_am, e_b1, e_b2, x_o1, x_o2, km, q, ko, ks, kv, kc, c1, c1_n, c2, c2_n, hf, w5]
    rw [st]
    refine ih (j + 1) _ _ _ (x7 + 1) _ _ (by omega) (by omega) (fun h => by omega) (fun _ => ?_) eh.symm
    rw [show j + 1 - 1 = j by omega]
    rcases Nat.eq_zero_or_pos j with z | z
    · have e4 := h0 z
      rw [if_neg (fun e => by omega), if_neg (fun e => by omega), z]
      have e7 : x7 = ((0 : Nat) : Int) := by omega
      rw [e7]
      exact ⟨rfl, rfl⟩
    · obtain ⟨e4, e5⟩ := h1 z
      obtain ⟨i, hi⟩ : ∃ i, j = i + 1 := ⟨j - 1, by omega⟩
      rw [show j - 1 = i by omega] at e4 e5
      have ml := hl_m_le (v := fun k => cu_v (r_G M) SH WM (r_G M (28 * p + 3 + (k : Int))) c) i
      have x40 : 0 ≤ x4 := by
        rw [e4]
        exact (hk _ (by omega) (by omega)).1
      have em : hl_m (fun k => cu_v (r_G M) SH WM (r_G M (28 * p + 3 + (k : Int))) c) j = if cu_v (r_G M) SH WM (r_G M (28 * p + 3 + (j : Int))) c < cu_v (r_G M) SH WM (r_G M (28 * p + 3 + (hl_m (fun k => cu_v (r_G M) SH WM (r_G M (28 * p + 3 + (k : Int))) c) i : Int))) c then j else hl_m (fun k => cu_v (r_G M) SH WM (r_G M (28 * p + 3 + (k : Int))) c) i := by rw [hi]; rfl
      rw [← hx, ← e5] at em
      rcases x_lt (cu_v (r_G M) SH WM (r_G M (28 * p + 3 + x7)) c) x5 with ⟨c1, c1_n⟩ | ⟨c1, c1_n⟩
      · rw [if_pos c1] at em
        rw [if_neg (fun e => by omega), if_neg (fun e => by omega), em, ← hx]
        exact ⟨rfl, rfl⟩
      · rw [if_neg (by omega)] at em
        rw [if_pos ⟨x40, by omega⟩, if_pos ⟨x40, by omega⟩, em]
        exact ⟨e4, e5⟩
end RHL
end
section
/-! held: the two answers -/
def ax_Hq (c w : Int) : Prop := (0 ≤ c ∧ c ≤ 99) ∧ 0 ≤ w ∧ w ≤ 2
def ax_Hv (g : Int → Int) (q c : Int) (k : Nat) : Int := cu_v g (hd_SH g) (hd_WM g) (g (28 * q + 3 + (k : Int))) c
def ax_Ha (g : Int → Int) (q : Int) (k : Nat) : Int := cu_cv g (hd_SH g (g (28 * q + 3 + (k : Int)))) (g (28 * q + 3 + (k : Int))) 0
def ax_H (g : Int → Int) (q c w : Int) (n gr : Nat) : Int := if w = 0 then g (28 * q + 3 + (hl_m (ax_Hv g q c) (n - 1) : Int)) else if w = 1 then hl_p (fun k => g (28 * q + 11 + (k : Int))) (ax_Hv g q c) (hd_DI g q) n gr else hl_h (ax_Ha g q) c n
section AXI
variable {M M1 M2 : EM} {p c w r1 r2 : Int}
theorem ax_113s : E_C 113 [8, p, c, w] M = e_tv E_C (E_V 113) e_t113_0 [8, p, c, w] M := r_ent (u := 113) (as := [8, p, c, w]) (M := M) (decide_eq_true c_this)
theorem ax_113a {i : Int} (ip : E_C 149 [8, p] M = some (i, M)) (h : i = 0 ∨ (i = 1 ∧ ¬ ax_Hq c w)) : E_C 113 [8, p, c, w] M = some (-1, M) := by
  rw [ax_113s]
  unfold e_t113_0
  rcases h with h | ⟨h, hb⟩
  · subst h
    simp [zq_a, zq_b, zq_c, zq_d, zq_e, zq_f, zq_g, zq_h, zq_i, zq_j, zq_k, zq_l, zq_m, zq_n, zq_o, zq_p, zq_q, zq_r, zq_s, zq_t, zq_u, zq_v, zq_w, zq_x, zq_y, zq_z, zq_A, zq_B, zq_C, zq_D, zq_E, zq_F, zq_G, zq_H, zq_I, zq_J, zq_K, zq_L, ↓zq_M, ↓zq_N, ↓zq_O, ↓zq_P, ↓zq_Q, ↓zq_R, zq_S, zq_T, zq_U, zq_V, zq_W, zq_X, zq_Y, zq_Z, zq_0, zq_1, zq_2, zq_3, zq_4, zq_5, ↓zq_6, ↓zq_7, ↓zq_8, ↓zq_9, ↓zq_aa, zq_ab, zq_ac, zq_ad, zq_ae, zq_af, zq_ag, ↓zq_ah, ↓zq_ai, ↓zq_aj, zq_ak, ↓zq_al, ↓zq_am, e_b1, e_b2, x_o1, x_o2, ip]
  · subst h
    unfold ax_Hq at hb
    rcases x_le 0 c with ⟨c0, c0_n⟩ | ⟨c0, c0_n⟩
    · rcases x_lt c 100 with ⟨c1, c1_n⟩ | ⟨c1, c1_n⟩
      · rcases x_le 0 w with ⟨c2, c2_n⟩ | ⟨c2, c2_n⟩
        · have c3 : 2 < w := by omega
          simp [zq_a, zq_b, zq_c, zq_d, zq_e, zq_f, zq_g, zq_h, zq_i, zq_j, zq_k, zq_l, zq_m, zq_n, zq_o, zq_p, zq_q, zq_r, zq_s, zq_t, zq_u, zq_v, zq_w, zq_x, zq_y, zq_z, zq_A, zq_B, zq_C, zq_D, zq_E, zq_F, zq_G, zq_H, zq_I, zq_J, zq_K, zq_L, ↓zq_M, ↓zq_N, ↓zq_O, ↓zq_P, ↓zq_Q, ↓zq_R, zq_S, zq_T, zq_U, zq_V, zq_W, zq_X, zq_Y, zq_Z, zq_0, zq_1, zq_2, zq_3, zq_4, zq_5, ↓zq_6, ↓zq_7, ↓zq_8, ↓zq_9, ↓zq_aa, zq_ab, zq_ac, zq_ad, zq_ae, zq_af, zq_ag, ↓zq_ah, ↓zq_ai, ↓zq_aj, zq_ak, ↓zq_al, ↓zq_am, e_b1, e_b2, x_o1, x_o2, ip, c0, c0_n, c1, c1_n, c2, c2_n, c3]
        · simp [zq_a, zq_b, zq_c, zq_d, zq_e, zq_f, zq_g, zq_h, zq_i, zq_j, zq_k, zq_l, zq_m, zq_n, zq_o, zq_p, zq_q, zq_r, zq_s, zq_t, zq_u, zq_v, zq_w, zq_x, zq_y, zq_z, zq_A, zq_B, zq_C, zq_D, zq_E, zq_F, zq_G, zq_H, zq_I, zq_J, zq_K, zq_L, ↓zq_M, ↓zq_N, ↓zq_O, ↓zq_P, ↓zq_Q, ↓zq_R, zq_S, zq_T, zq_U, zq_V, zq_W, zq_X, zq_Y, zq_Z, zq_0, zq_1, zq_2, zq_3, zq_4, zq_5, ↓zq_6, ↓zq_7, ↓zq_8, ↓zq_9, ↓zq_aa, zq_ab, zq_ac, zq_ad, zq_ae, zq_af, zq_ag, ↓zq_ah, ↓zq_ai, ↓zq_aj, zq_ak, ↓zq_al, ↓zq_am, e_b1, e_b2, x_o1, x_o2, ip, c0, c0_n, c1, c1_n, c2, c2_n]
      · simp [zq_a, zq_b, zq_c, zq_d, zq_e, zq_f, zq_g, zq_h, zq_i, zq_j, zq_k, zq_l, zq_m, zq_n, zq_o, zq_p, zq_q, zq_r, zq_s, zq_t, zq_u, zq_v, zq_w, zq_x, zq_y, zq_z, zq_A, zq_B, zq_C, zq_D, zq_E, zq_F, zq_G, zq_H, zq_I, zq_J, zq_K, zq_L, ↓zq_M, ↓zq_N, ↓zq_O, ↓zq_P, ↓zq_Q, ↓zq_R, zq_S, zq_T, zq_U, zq_V, zq_W, zq_X, zq_Y, zq_Z, zq_0, zq_1, zq_2, zq_3, zq_4, zq_5, ↓zq_6, ↓zq_7, ↓zq_8, ↓zq_9, ↓zq_aa, zq_ab, zq_ac, zq_ad, zq_ae, zq_af, zq_ag, ↓zq_ah, ↓zq_ai, ↓zq_aj, zq_ak, ↓zq_al, ↓zq_am, e_b1, e_b2, x_o1, x_o2, ip, c0, c0_n, c1, c1_n]
    · simp [zq_a, zq_b, zq_c, zq_d, zq_e, zq_f, zq_g, zq_h, zq_i, zq_j, zq_k, zq_l, zq_m, zq_n, zq_o, zq_p, zq_q, zq_r, zq_s, zq_t, zq_u, zq_v, zq_w, zq_x, zq_y, zq_z, zq_A, zq_B, zq_C, zq_D, zq_E, zq_F, zq_G, zq_H, zq_I, zq_J, zq_K, zq_L, ↓zq_M, ↓zq_N, ↓zq_O, ↓zq_P, ↓zq_Q, ↓zq_R, zq_S, zq_T, zq_U, zq_V, zq_W, zq_X, zq_Y, zq_Z, zq_0, zq_1, zq_2, zq_3, zq_4, zq_5, ↓zq_6, ↓zq_7, ↓zq_8, ↓zq_9, ↓zq_aa, zq_ab, zq_ac, zq_ad, zq_ae, zq_af, zq_ag, ↓zq_ah, ↓zq_ai, ↓zq_aj, zq_ak, ↓zq_al, ↓zq_am, e_b1, e_b2, x_o1, x_o2, ip, c0, c0_n]
theorem ax_113b (ip : E_C 149 [8, p] M = some (1, M)) (h : ax_Hq c w) (k : E_C 150 [8, p, 1] M = some (0, M)) : E_C 113 [8, p, c, w] M = some (-3, M) := by
  obtain ⟨⟨d0, d1⟩, d2, d3⟩ := h
  have d4 : ¬ 2 < w := by omega
  have d5 : c < 100 := by omega
  rw [ax_113s]
  unfold e_t113_0
  simp [zq_a, zq_b, zq_c, zq_d, zq_e, zq_f, zq_g, zq_h, zq_i, zq_j, zq_k, zq_l, zq_m, zq_n, zq_o, zq_p, zq_q, zq_r, zq_s, zq_t, zq_u, zq_v, zq_w, zq_x, zq_y, zq_z, zq_A, zq_B, zq_C, zq_D, zq_E, zq_F, zq_G, zq_H, zq_I, zq_J, zq_K, zq_L, ↓zq_M, ↓zq_N, ↓zq_O, ↓zq_P, ↓zq_Q, ↓zq_R, zq_S, zq_T, zq_U, zq_V, zq_W, zq_X, zq_Y, zq_Z, zq_0, zq_1, zq_2, zq_3, zq_4, zq_5, ↓zq_6, ↓zq_7, ↓zq_8, ↓zq_9, ↓zq_aa, zq_ab, zq_ac, zq_ad, zq_ae, zq_af, zq_ag, ↓zq_ah, ↓zq_ai, ↓zq_aj, zq_ak, ↓zq_al, ↓zq_am, e_b1, e_b2, x_o1, x_o2, ip, k, d0, d5, d2, d3, d4]
theorem ax_113c {z0 z1 z2 : Int} {N A : EM} (ip : E_C 149 [8, p] M = some (1, M)) (h : ax_Hq c w) (k : E_C 150 [8, p, 1] M = some (1, M)) (k1 : E_C 1 [170, p] M = some (0, N)) (k2 : E_C 12 [170, c] N = some (0, A)) (k3 : E_C 24 [170] A = some (z0, A)) (k4 : E_C 25 [170] A = some (z1, A)) (k5 : E_C 26 [170, c] A = some (z2, A)) : E_C 113 [8, p, c, w] M = some (if w = 0 then z0 else if w = 1 then z1 else z2, A) := by
  obtain ⟨⟨d0, d1⟩, d2, d3⟩ := h
  have d4 : ¬ 2 < w := by omega
  have d5 : c < 100 := by omega
  rw [ax_113s]
  unfold e_t113_0
  by_cases w0 : w = 0
  · rw [if_pos w0]
    subst w0
    simp [zq_a, zq_b, zq_c, zq_d, zq_e, zq_f, zq_g, zq_h, zq_i, zq_j, zq_k, zq_l, zq_m, zq_n, zq_o, zq_p, zq_q, zq_r, zq_s, zq_t, zq_u, zq_v, zq_w, zq_x, zq_y, zq_z, zq_A, zq_B, zq_C, zq_D, zq_E, zq_F, zq_G, zq_H, zq_I, zq_J, zq_K, zq_L, ↓zq_M, ↓zq_N, ↓zq_O, ↓zq_P, ↓zq_Q, ↓zq_R, zq_S, zq_T, zq_U, zq_V, zq_W, zq_X, zq_Y, zq_Z, zq_0, zq_1, zq_2, zq_3, zq_4, zq_5, ↓zq_6, ↓zq_7, ↓zq_8, ↓zq_9, ↓zq_aa, zq_ab, zq_ac, zq_ad, zq_ae, zq_af, zq_ag, ↓zq_ah, ↓zq_ai, ↓zq_aj, zq_ak, ↓zq_al, ↓zq_am, e_b1, e_b2, x_o1, x_o2, ax_bench, ip, k, d0, d5, k1, k2, k3]
  · rw [if_neg w0]
    by_cases w1 : w = 1
    · rw [if_pos w1]
      subst w1
      simp [zq_a, zq_b, zq_c, zq_d, zq_e, zq_f, zq_g, zq_h, zq_i, zq_j, zq_k, zq_l, zq_m, zq_n, zq_o, zq_p, zq_q, zq_r, zq_s, zq_t, zq_u, zq_v, zq_w, zq_x, zq_y, zq_z, zq_A, zq_B, zq_C, zq_D, zq_E, zq_F, zq_G, zq_H, zq_I, zq_J, zq_K, zq_L, ↓zq_M, ↓zq_N, ↓zq_O, ↓zq_P, ↓zq_Q, ↓zq_R, zq_S, zq_T, zq_U, zq_V, zq_W, zq_X, zq_Y, zq_Z, zq_0, zq_1, zq_2, zq_3, zq_4, zq_5, ↓zq_6, ↓zq_7, ↓zq_8, ↓zq_9, ↓zq_aa, zq_ab, zq_ac, zq_ad, zq_ae, zq_af, zq_ag, ↓zq_ah, ↓zq_ai, ↓zq_aj, zq_ak, ↓zq_al, ↓zq_am, e_b1, e_b2, x_o1, x_o2, ax_bench, ip, k, d0, d5, k1, k2, k4]
    · rw [if_neg w1]
      simp [zq_a, zq_b, zq_c, zq_d, zq_e, zq_f, zq_g, zq_h, zq_i, zq_j, zq_k, zq_l, zq_m, zq_n, zq_o, zq_p, zq_q, zq_r, zq_s, zq_t, zq_u, zq_v, zq_w, zq_x, zq_y, zq_z, zq_A, zq_B, zq_C, zq_D, zq_E, zq_F, zq_G, zq_H, zq_I, zq_J, zq_K, zq_L, ↓zq_M, ↓zq_N, ↓zq_O, ↓zq_P, ↓zq_Q, ↓zq_R, zq_S, zq_T, zq_U, zq_V, zq_W, zq_X, zq_Y, zq_Z, zq_0, zq_1, zq_2, zq_3, zq_4, zq_5, ↓zq_6, ↓zq_7, ↓zq_8, ↓zq_9, ↓zq_aa, zq_ab, zq_ac, zq_ad, zq_ae, zq_af, zq_ag, ↓zq_ah, ↓zq_ai, ↓zq_aj, zq_ak, ↓zq_al, ↓zq_am, e_b1, e_b2, x_o1, x_o2, ax_bench, ip, k, d0, d5, d2, d3, d4, w0, w1, k1, k2, k5]
theorem ax_213a {i : Int} (ip : E_C 169 [192, p] M = some (i, M)) (h : i = 0 ∨ (i = 1 ∧ ¬ ax_Hq c w)) : E_C 213 [192, p, c, w] M = some (-1, M) := by
  rcases h with h | ⟨h, hb⟩
  · subst h
    rw [r_ent (show e_rok 213 [192, p, c, w] = true from decide_eq_true r_ref)]
    show e_tv E_C (E_V 213) e_t213_0 [192, p, c, w, 0, 0, 0, 0, 0, 0] M = _
    unfold e_t213_0
    simp [zq_a, zq_b, zq_c, zq_d, zq_e, zq_f, zq_g, zq_h, zq_i, zq_j, zq_k, zq_l, zq_m, zq_n, zq_o, zq_p, zq_q, zq_r, zq_s, zq_t, zq_u, zq_v, zq_w, zq_x, zq_y, zq_z, zq_A, zq_B, zq_C, zq_D, zq_E, zq_F, zq_G, zq_H, zq_I, zq_J, zq_K, zq_L, ↓zq_M, ↓zq_N, ↓zq_O, ↓zq_P, ↓zq_Q, ↓zq_R, zq_S, zq_T, zq_U, zq_V, zq_W, zq_X, zq_Y, zq_Z, zq_0, zq_1, zq_2, zq_3, zq_4, zq_5, ↓zq_6, ↓zq_7, ↓zq_8, ↓zq_9, ↓zq_aa, zq_ab, zq_ac, zq_ad, zq_ae, zq_af, zq_ag, ↓zq_ah, ↓zq_ai, ↓zq_aj, zq_ak, ↓zq_al, ↓zq_am, e_b1, e_b2, x_o1, x_o2, ip]
  · subst h
    unfold ax_Hq at hb
    by_cases e : 0 ≤ c ∧ c ≤ 99
    · have i1 := r_in1 (M := M) e
      have i2 := r_in0 (M := M) (x := w) (lo := 0) (hi := 2) (fun x => hb ⟨e, x⟩)
      rw [r_ent (show e_rok 213 [192, p, c, w] = true from decide_eq_true r_ref)]
      show e_tv E_C (E_V 213) e_t213_0 [192, p, c, w, 0, 0, 0, 0, 0, 0] M = _
      unfold e_t213_0
      simp [zq_a, zq_b, zq_c, zq_d, zq_e, zq_f, zq_g, zq_h, zq_i, zq_j, zq_k, zq_l, zq_m, zq_n, zq_o, zq_p, zq_q, zq_r, zq_s, zq_t, zq_u, zq_v, zq_w, zq_x, zq_y, zq_z, zq_A, zq_B, zq_C, zq_D, zq_E, zq_F, zq_G, zq_H, zq_I, zq_J, zq_K, zq_L, ↓zq_M, ↓zq_N, ↓zq_O, ↓zq_P, ↓zq_Q, ↓zq_R, zq_S, zq_T, zq_U, zq_V, zq_W, zq_X, zq_Y, zq_Z, zq_0, zq_1, zq_2, zq_3, zq_4, zq_5, ↓zq_6, ↓zq_7, ↓zq_8, ↓zq_9, ↓zq_aa, zq_ab, zq_ac, zq_ad, zq_ae, zq_af, zq_ag, ↓zq_ah, ↓zq_ai, ↓zq_aj, zq_ak, ↓zq_al, ↓zq_am, e_b1, e_b2, x_o1, x_o2, ip, i1, i2]
    · have i1 := r_in0 (M := M) e
      rw [r_ent (show e_rok 213 [192, p, c, w] = true from decide_eq_true r_ref)]
      show e_tv E_C (E_V 213) e_t213_0 [192, p, c, w, 0, 0, 0, 0, 0, 0] M = _
      unfold e_t213_0
      simp [zq_a, zq_b, zq_c, zq_d, zq_e, zq_f, zq_g, zq_h, zq_i, zq_j, zq_k, zq_l, zq_m, zq_n, zq_o, zq_p, zq_q, zq_r, zq_s, zq_t, zq_u, zq_v, zq_w, zq_x, zq_y, zq_z, zq_A, zq_B, zq_C, zq_D, zq_E, zq_F, zq_G, zq_H, zq_I, zq_J, zq_K, zq_L, ↓zq_M, ↓zq_N, ↓zq_O, ↓zq_P, ↓zq_Q, ↓zq_R, zq_S, zq_T, zq_U, zq_V, zq_W, zq_X, zq_Y, zq_Z, zq_0, zq_1, zq_2, zq_3, zq_4, zq_5, ↓zq_6, ↓zq_7, ↓zq_8, ↓zq_9, ↓zq_aa, zq_ab, zq_ac, zq_ad, zq_ae, zq_af, zq_ag, ↓zq_ah, ↓zq_ai, ↓zq_aj, zq_ak, ↓zq_al, ↓zq_am, e_b1, e_b2, x_o1, x_o2, ip, i1]
theorem ax_213b (ip : E_C 169 [192, p] M = some (1, M)) (h : ax_Hq c w) (kk : E_C 170 [192, p] M = some (r_G M (28 * p), M)) (k1 : r_G M (28 * p) ≠ 1) : E_C 213 [192, p, c, w] M = some (-3, M) := by
  have i1 := r_in1 (M := M) h.1
  have i2 := r_in1 (M := M) h.2
  rw [r_ent (show e_rok 213 [192, p, c, w] = true from decide_eq_true r_ref)]
  show e_tv E_C (E_V 213) e_t213_0 [192, p, c, w, 0, 0, 0, 0, 0, 0] M = _
  unfold e_t213_0
  simp [zq_a, zq_b, zq_c, zq_d, zq_e, zq_f, zq_g, zq_h, zq_i, zq_j, zq_k, zq_l, zq_m, zq_n, zq_o, zq_p, zq_q, zq_r, zq_s, zq_t, zq_u, zq_v, zq_w, zq_x, zq_y, zq_z, zq_A, zq_B, zq_C, zq_D, zq_E, zq_F, zq_G, zq_H, zq_I, zq_J, zq_K, zq_L, ↓zq_M, ↓zq_N, ↓zq_O, ↓zq_P, ↓zq_Q, ↓zq_R, zq_S, zq_T, zq_U, zq_V, zq_W, zq_X, zq_Y, zq_Z, zq_0, zq_1, zq_2, zq_3, zq_4, zq_5, ↓zq_6, ↓zq_7, ↓zq_8, ↓zq_9, ↓zq_aa, zq_ab, zq_ac, zq_ad, zq_ae, zq_af, zq_ag, ↓zq_ah, ↓zq_ai, ↓zq_aj, zq_ak, ↓zq_al, ↓zq_am, e_b1, e_b2, x_o1, x_o2, ip, i1, i2, kk, k1]
theorem ax_213c {r : EO} (ip : E_C 169 [192, p] M = some (1, M)) (h : ax_Hq c w) (kk : E_C 170 [192, p] M = some (r_G M (28 * p), M)) (k1 : r_G M (28 * p) = 1) (k : E_V 213 58 [192, p, c, w, -1, 0, 0, 0, 0, 0] M = r) : E_C 213 [192, p, c, w] M = r := by
  have i1 := r_in1 (M := M) h.1
  have i2 := r_in1 (M := M) h.2
  rw [k1] at kk
  rw [r_ent (show e_rok 213 [192, p, c, w] = true from decide_eq_true r_ref)]
  show e_tv E_C (E_V 213) e_t213_0 [192, p, c, w, 0, 0, 0, 0, 0, 0] M = _
  unfold e_t213_0
  simp [zq_a, zq_b, zq_c, zq_d, zq_e, zq_f, zq_g, zq_h, zq_i, zq_j, zq_k, zq_l, zq_m, zq_n, zq_o, zq_p, zq_q, zq_r, zq_s, zq_t, zq_u, zq_v, zq_w, zq_x, zq_y, zq_z, zq_A, zq_B, zq_C, zq_D, zq_E, zq_F, zq_G, zq_H, zq_I, zq_J, zq_K, zq_L, ↓zq_M, ↓zq_N, ↓zq_O, ↓zq_P, ↓zq_Q, ↓zq_R, zq_S, zq_T, zq_U, zq_V, zq_W, zq_X, zq_Y, zq_Z, zq_0, zq_1, zq_2, zq_3, zq_4, zq_5, ↓zq_6, ↓zq_7, ↓zq_8, ↓zq_9, ↓zq_aa, zq_ab, zq_ac, zq_ad, zq_ae, zq_af, zq_ag, ↓zq_ah, ↓zq_ai, ↓zq_aj, zq_ak, ↓zq_al, ↓zq_am, e_b1, e_b2, x_o1, x_o2, ip, i1, i2, kk, k]
theorem ax_113d {q n gr : Nat} (h : hd_all M) (hp : (q : Int) < r_G M 1198) (k1 : r_G M (28 * (q : Int)) = 1) (hd : hd_d1 M 0 (r_G M) q n gr) (ip : E_C 149 [8, (q : Int)] M = some (1, M)) (hh : ax_Hq c w) : ∃ A, E_C 113 [8, (q : Int), c, w] M = some (ax_H (r_G M) (q : Int) c w n gr, A) ∧ A 171 0 = 0 := by
  obtain ⟨⟨n1, n8, n3⟩, b1, b2, b3, b4, b5, b6⟩ := hd
  obtain ⟨N, s1, s2, s3, s4, s5, s6, s7, s8⟩ := ax_1r h hp k1 b1 b3
  have hB := h.1
  have hC := h.2.1
  have hD := h.2.2.1
  have h40 := hB.2.1.2
  have q40 : (0 : Int) ≤ (q : Int) ∧ (q : Int) < 40 := ⟨by omega, by omega⟩
  obtain ⟨A, t1, t2, t3⟩ := bx_12 (M := N) (g := r_G M) (SH := hd_SH (r_G M)) (WM := hd_WM (r_G M)) (n := n) (c := c) ⟨hh.1.1, by have := hh.1.2; omega⟩ s2 (by omega) h40 (fun q hq h0 => bx_d0_cg s6 ((hD q hq).1 h0)) (fun j hj => (s4 j hj).1)
  have ev : ∀ j, j < n → A 179 (4000 + j) = ax_Hv (r_G M) (q : Int) c j := fun j hj => by
    rw [(t2 j hj).1, (s4 j hj).2.1]
    rfl
  have ea : ∀ j, j < n → A 178 (6 * j) = ax_Ha (r_G M) (q : Int) j := fun j hj => by
    rw [(t2 j hj).2, (s4 j hj).2.1]
    rfl
  have vb : ∀ j, j < n → -60 ≤ ax_Hv (r_G M) (q : Int) c j ∧ ax_Hv (r_G M) (q : Int) c j ≤ 60 := fun j hj => by
    obtain ⟨⟨m1, m2, m3, m4, m5⟩, c0, -⟩ := b6 j hj
    obtain ⟨y, hy⟩ : ∃ y : Nat, r_G M (28 * (q : Int) + 3 + (j : Int)) = y := ⟨(r_G M (28 * (q : Int) + 3 + (j : Int))).toNat, by omega⟩
    rw [hy] at c0 m3
    obtain ⟨bd1, bd2⟩ := hd_bd hC y (by omega) c0
    have hcv := ((hD y (by omega)).1 c0).1
    have := (cu_v_bd (c := c) hcv bd1 bd2 hh.1.1).1
    show -60 ≤ cu_v _ _ _ (r_G M (28 * (q : Int) + 3 + (j : Int))) c ∧ cu_v _ _ _ (r_G M (28 * (q : Int) + 3 + (j : Int))) c ≤ 60
    rw [hy]
    omega
  have z0 := hl_24 (M := A) (v := ax_Hv (r_G M) (q : Int) c) ((t3 _ _ (by decide)).trans s2) n1 (by omega) ev
  have z1 := hl_25 (M := A) (v := ax_Hv (r_G M) (q : Int) c) (G := fun k => r_G M (28 * (q : Int) + 11 + (k : Int))) (D := hd_DI (r_G M) (q : Int)) ((t3 _ _ (by decide)).trans s2) ((t3 _ _ (by decide)).trans s3) (by omega) (by omega) ev vb (fun j hj => (t3 _ _ (by decide)).trans (s4 j hj).2.2) (fun y hy => (t3 _ _ (by decide)).trans (s5 y hy))
  have z2 := hl_26 (M := A) (a := ax_Ha (r_G M) (q : Int)) (c := c) ((t3 _ _ (by decide)).trans s2) (by omega) ea
  have ml := hl_m_le (v := ax_Hv (r_G M) (q : Int) c) (n - 1)
  rw [(t3 174 _ (by decide)).trans (s4 _ (by omega)).2.1] at z0
  have j : E_C 150 [8, (q : Int), 1] M = some (1, M) := (h_150 q40).trans (congrArg some (congrArg (·, M) (if_pos (by rw [Int.toNat_natCast]; exact (hB.2.2 q hp).1.trans k1))))
  exact ⟨A, ax_113c ip hh j s1 t1 z0 z1 z2, (t3 _ _ (by decide)).trans s7⟩
theorem ax_213d {q n gr : Nat} {g : Int → Int} (hG : r_G M1 = g) (J1 : r_J M1) (K1 : rx_K M1) (hcs : hd_cs g) (hcv : hd_cvs g) (hp : (q : Int) < g 1198) (k1 : g (28 * (q : Int)) = 1) (hn : g (28 * (q : Int) + 2) = n) (n1 : 1 ≤ n) (hg : g (28 * (q : Int) + 19) = gr) (hh : ax_Hq c w) (ip : E_C 169 [192, (q : Int)] M1 = some (1, M1)) : E_C 213 [192, (q : Int), c, w] M1 = some (ax_H g (q : Int) c w n gr, M1) := by
  have hW := (r_J_E J1).2.1
  have hm := rx_MD_md (rx_MD0 hG K1 J1.2.2.2.2 hcs)
  subst hG
  have h40 := r_40 hW ⟨by omega, hp⟩
  have kk : E_C 170 [192, (q : Int)] M1 = some (r_G M1 (28 * (q : Int)), M1) := r_kind h40
  have hrw : r_rw (r_G M1) (r_G M1 1198) (q : Int) := by
    rcases hW.2.2.1 (q : Int) (by omega) hp with x | x | x | x
    · have := x.2.2.1; omega
    · exact x
    · have := x.2.2.1; omega
    · have := x.2.2.1; omega
  obtain ⟨a1, a2, a3, a4, a5, a6, a7, a8⟩ := hrw
  have hc2 : 0 ≤ c ∧ c ≤ 2000 := ⟨hh.1.1, by have := hh.1.2; omega⟩
  obtain ⟨y4, y5, y9, e1, e2⟩ := rx_213c (w := w) hm hcv h40 (by omega) hn (by omega) hc2 a8 n 0 (-1) 0 0 0 0 0 rfl (by omega) (fun _ => rfl) (fun h => absurd h (by omega)) rfl
  have e3 := rx_213p (w := w) (x4 := y4) (x5 := y5) (x6 := hl_h (fun k => cu_cv (r_G M1) (hd_SH (r_G M1) (r_G M1 (28 * (q : Int) + 3 + (k : Int)))) (r_G M1 (28 * (q : Int) + 3 + (k : Int))) 0) c n) hm hcv h40 (by omega) hn (by omega) hg (by omega) hc2 a8 y9 gr 0 0 0 rfl (by omega) rfl
  rw [e2 (by omega)] at e1 e3
  exact ax_213c ip hh kk k1 (e1.trans e3)
theorem ax_held (h : hd_all M) (J1 : r_J M1) (K1 : rx_K M1) (hfr : ∀ i, M1 193 i = M 193 i) (k1 : E_C 113 [8, p, c, w] M = some (r1, M1)) (k2 : E_C 213 [192, p, c, w] M1 = some (r2, M2)) : r1 = r2 := by
  have eG : r_G M1 = r_G M := funext fun i => hfr _
  have hW := (r_J_E J1).2.1
  have hB := h.1
  have h10 : M 10 0 = r_G M 1198 := hB.1
  have i := h_149 (k := p) (M := M)
  rw [h10] at i
  by_cases e : 0 ≤ p ∧ p < r_G M 1198
  · rw [if_pos e] at i
    have e' : 0 ≤ p ∧ p < r_G M1 1198 := by rw [eG]; exact e
    have ip := r_ip1 hW e'
    have h40 := r_40 hW e'
    by_cases b : ax_Hq c w
    · obtain ⟨q, rfl⟩ : ∃ q : Nat, p = q := ⟨p.toNat, by omega⟩
      by_cases kq : r_G M (28 * (q : Int)) = 1
      · obtain ⟨n, gr, hd⟩ := (h.2.2.1 q e.2).2.1 kq
        obtain ⟨A, x1, -⟩ := ax_113d h e.2 kq hd i b
        obtain ⟨⟨n1, n8, n3⟩, b1, b2, b3, -⟩ := hd
        have y1 := ax_213d (M1 := M1) eG J1 K1 (hd_cs_of h.2.1) (hd_cvs_of h.2.2.1) e.2 kq b1 n1 b3 b ip
        obtain ⟨e1, e2⟩ := Prod.mk.inj (Option.some.inj (k1.symm.trans x1))
        obtain ⟨f1, f2⟩ := Prod.mk.inj (Option.some.inj (k2.symm.trans y1))
        exact e1.trans f1.symm
      · have j : E_C 150 [8, (q : Int), 1] M = some (0, M) := (h_150 ⟨by omega, by omega⟩).trans (congrArg some (congrArg (·, M) (if_neg (by rw [Int.toNat_natCast]; exact fun x => kq ((hB.2.2 q e.2).1.symm.trans x)))))
        have kk : E_C 170 [192, (q : Int)] M1 = some (r_G M1 (28 * (q : Int)), M1) := r_kind h40
        obtain ⟨e1, e2⟩ := Prod.mk.inj (Option.some.inj (k1.symm.trans (ax_113b i b j)))
        obtain ⟨f1, f2⟩ := Prod.mk.inj (Option.some.inj (k2.symm.trans (ax_213b ip b kk (by rw [eG]; exact kq))))
        exact e1.trans f1.symm
    · obtain ⟨e1, e2⟩ := Prod.mk.inj (Option.some.inj (k1.symm.trans (ax_113a i (Or.inr ⟨rfl, b⟩))))
      obtain ⟨f1, f2⟩ := Prod.mk.inj (Option.some.inj (k2.symm.trans (ax_213a ip (Or.inr ⟨rfl, b⟩))))
      exact e1.trans f1.symm
  · rw [if_neg e] at i
    have ip := r_ip0 hW (show ¬ (0 ≤ p ∧ p < r_G M1 1198) by rw [eG]; exact e)
    obtain ⟨e1, e2⟩ := Prod.mk.inj (Option.some.inj (k1.symm.trans (ax_113a i (Or.inl rfl))))
    obtain ⟨f1, f2⟩ := Prod.mk.inj (Option.some.inj (k2.symm.trans (ax_213a ip (Or.inl rfl))))
    exact e1.trans f1.symm
end AXI
end
