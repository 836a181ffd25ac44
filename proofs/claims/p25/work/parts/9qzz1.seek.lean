section
/-! seek: the reference, and the pair -/
section RXK
variable {M M1 M2 : EM} {p n r1 r2 b : Int} {P : Int → Int}
theorem rx_33 {u r v sg : Int} {M : EM} (h27 : M 192 27 = u) (h28 : M 192 28 = sg) (hsg : sg = if r = 0 then 1 else -1) (hr : r = 0 ∨ r = 1) (hu : 0 ≤ u ∧ u ≤ 500) (hb : 1 ≤ b ∧ b ≤ 40) : ∃ M', E_V 215 33 [192, b, v] M = some (0, M') ∧ M' 192 27 = sk_u u r b ∧ M' 192 28 = (if sk_t u r b = 0 then 1 else -1) ∧ M' 192 30 = 1 ∧ M' 192 29 = v ∧ ∀ id k, ¬ (id = 192 ∧ 27 ≤ k ∧ k ≤ 30) → M' id k = M id k := by
  obtain ⟨n, hn⟩ : ∃ n, sk_n u r b = n := ⟨_, rfl⟩
  obtain ⟨x, hx⟩ : ∃ x, b * sg = x := ⟨_, rfl⟩
  obtain ⟨sm, hsm⟩ : ∃ sm, -sg = sm := ⟨_, rfl⟩
  have hn' : -40 ≤ x ∧ x ≤ 40 ∧ u + x = n := by
    unfold sk_n at hn
    rcases hr with rfl | rfl
    · rw [if_pos rfl] at hsg hn
      rw [hsg, Int.mul_one] at hx
      omega
    · rw [if_neg (by decide)] at hsg hn
      rw [hsg] at hx
      omega
  have hs : sm = (if 1 - r = 0 then 1 else -1) := by
    rcases hr with rfl | rfl
    · rw [if_pos rfl] at hsg
      rw [if_neg (by decide)]
      omega
    · rw [if_neg (by decide)] at hsg
      rw [if_pos (by decide)]
      omega
  have ws : e_w sm = sm := by
    rcases hr with rfl | rfl
    · rw [if_pos rfl] at hsg
      exact a_w_id (by omega) (by omega)
    · rw [if_neg (by decide)] at hsg
      exact a_w_id (by omega) (by omega)
  have wx : e_w (b * sg) = x := by rw [hx]; exact a_w_id (by omega) (by omega)
  have wn : e_w (u + x) = n := by rw [hn'.2.2]; exact a_w_id (by omega) (by omega)
  have wm : e_w (-sg) = sm := by rw [hsm]; exact ws
  unfold sk_u sk_t
  rw [hn]
  rcases Int.lt_or_le n 0 with c | c
  · have c0 : ¬ 0 ≤ n := by omega
    rw [if_pos c, if_pos (Or.inl c)]
    refine ⟨e_up (e_up (e_up (e_up (e_up M 192 30 1) 192 29 v) 192 27 n) 192 27 0) 192 28 sm, ?_, by simp [c_up_s, r_ff], by rw [c_up_s]; exact hs, by simp [c_up_s, r_ff], by simp [c_up_s, r_ff], fun id k h => by rw [c_up_n (by omega), c_up_n (by omega), c_up_n (by omega), c_up_n (by omega), c_up_n (by omega)]⟩
    clear hsg hs hn hx hsm
    rw [E_V_eq]
    show e_tv E_C (E_V 215) e_t215_33 [192, b, v] M = _
    unfold e_t215_33
    simp [zq_a, zq_b, zq_c, zq_d, zq_e, zq_f, zq_g, zq_h, zq_i, zq_j, zq_k, zq_l, zq_m, zq_n, zq_o, zq_p, zq_q, zq_r, zq_s, zq_t, zq_u, zq_v, zq_w, zq_x, zq_y, zq_z, zq_A, zq_B, zq_C, zq_D, zq_E, zq_F, zq_G, zq_H, zq_I, zq_J, zq_K, zq_L, ↓zq_M, ↓zq_N, ↓zq_O, ↓zq_P, ↓zq_Q, ↓zq_R, zq_S, zq_T, zq_U, zq_V, zq_W, zq_X, zq_Y, zq_Z, zq_0, zq_1, zq_2, zq_3, zq_4, zq_5, ↓zq_6, ↓zq_7, ↓zq_8, ↓zq_9, ↓zq_aa, zq_ab, zq_ac, zq_ad, zq_ae, zq_af, zq_ag, ↓zq_ah, ↓zq_ai, ↓zq_aj, zq_ak, ↓zq_al, ↓zq_am, e_b1, e_b2, x_o1, x_o2, r_F9, r_F10, r_F13, r_F14, r_F15, r_F16, r_F17, r_F18, r_F20, r_F21, r_F22, r_F23, r_F24, r_F27, r_F28, r_F29, r_F30, r_F33, r_F34, r_F35, r_P9, r_P10, r_P13, r_P14, r_P15, r_P16, r_P17, r_P18, r_P20, r_P21, r_P22, r_P23, r_P24, r_P27, r_P28, r_P29, r_P30, r_P33, r_P34, r_P35, r_O0, r_O1, r_O2, r_O3, r_O4, r_O5, r_O6, r_O7, r_O8, r_O11, r_O12, r_O19, r_O25, r_O26, r_O31, r_O32, r_O36, r_O37, r_O38, r_O39, r_ff, c_up_s, h27, h28, wx, wn, wm, c, c0]
  · rcases Int.lt_or_le 500 n with d | d
    · have c0 : ¬ n < 0 := by omega
      have d0 : ¬ n ≤ 500 := by omega
      rw [if_neg (by omega), if_pos d, if_pos (Or.inr d)]
      refine ⟨e_up (e_up (e_up (e_up (e_up M 192 30 1) 192 29 v) 192 27 n) 192 27 500) 192 28 sm, ?_, by simp [c_up_s, r_ff], by rw [c_up_s]; exact hs, by simp [c_up_s, r_ff], by simp [c_up_s, r_ff], fun id k h => by rw [c_up_n (by omega), c_up_n (by omega), c_up_n (by omega), c_up_n (by omega), c_up_n (by omega)]⟩
      clear hsg hs hn hx hsm
      rw [E_V_eq]
      show e_tv E_C (E_V 215) e_t215_33 [192, b, v] M = _
      unfold e_t215_33
      simp [zq_a, zq_b, zq_c, zq_d, zq_e, zq_f, zq_g, zq_h, zq_i, zq_j, zq_k, zq_l, zq_m, zq_n, zq_o, zq_p, zq_q, zq_r, zq_s, zq_t, zq_u, zq_v, zq_w, zq_x, zq_y, zq_z, zq_A, zq_B, zq_C, zq_D, zq_E, zq_F, zq_G, zq_H, zq_I, zq_J, zq_K, zq_L, ↓zq_M, ↓zq_N, ↓zq_O, ↓zq_P, ↓zq_Q, ↓zq_R, zq_S, zq_T, zq_U, zq_V, zq_W, zq_X, zq_Y, zq_Z, zq_0, zq_1, zq_2, zq_3, zq_4, zq_5, ↓zq_6, ↓zq_7, ↓zq_8, ↓zq_9, ↓zq_aa, zq_ab, zq_ac, zq_ad, zq_ae, zq_af, zq_ag, ↓zq_ah, ↓zq_ai, ↓zq_aj, zq_ak, ↓zq_al, ↓zq_am, e_b1, e_b2, x_o1, x_o2, r_F9, r_F10, r_F13, r_F14, r_F15, r_F16, r_F17, r_F18, r_F20, r_F21, r_F22, r_F23, r_F24, r_F27, r_F28, r_F29, r_F30, r_F33, r_F34, r_F35, r_P9, r_P10, r_P13, r_P14, r_P15, r_P16, r_P17, r_P18, r_P20, r_P21, r_P22, r_P23, r_P24, r_P27, r_P28, r_P29, r_P30, r_P33, r_P34, r_P35, r_O0, r_O1, r_O2, r_O3, r_O4, r_O5, r_O6, r_O7, r_O8, r_O11, r_O12, r_O19, r_O25, r_O26, r_O31, r_O32, r_O36, r_O37, r_O38, r_O39, r_ff, c_up_s, h27, h28, wx, wn, wm, c, c0, d0]
    · have en : (if n < 0 ∨ 500 < n then 1 - r else r) = r := if_neg (by omega)
      rw [en, if_neg (by omega), if_neg (by omega)]
      refine ⟨e_up (e_up (e_up M 192 30 1) 192 29 v) 192 27 n, ?_, by simp [c_up_s, r_ff], by rw [r_ff (by decide), r_ff (by decide), r_ff (by decide), h28]; exact hsg, by simp [c_up_s, r_ff], by simp [c_up_s, r_ff], fun id k h => by rw [c_up_n (by omega), c_up_n (by omega), c_up_n (by omega)]⟩
      clear hsg hs hn hx hsm
      rw [E_V_eq]
      show e_tv E_C (E_V 215) e_t215_33 [192, b, v] M = _
      unfold e_t215_33
      simp [zq_a, zq_b, zq_c, zq_d, zq_e, zq_f, zq_g, zq_h, zq_i, zq_j, zq_k, zq_l, zq_m, zq_n, zq_o, zq_p, zq_q, zq_r, zq_s, zq_t, zq_u, zq_v, zq_w, zq_x, zq_y, zq_z, zq_A, zq_B, zq_C, zq_D, zq_E, zq_F, zq_G, zq_H, zq_I, zq_J, zq_K, zq_L, ↓zq_M, ↓zq_N, ↓zq_O, ↓zq_P, ↓zq_Q, ↓zq_R, zq_S, zq_T, zq_U, zq_V, zq_W, zq_X, zq_Y, zq_Z, zq_0, zq_1, zq_2, zq_3, zq_4, zq_5, ↓zq_6, ↓zq_7, ↓zq_8, ↓zq_9, ↓zq_aa, zq_ab, zq_ac, zq_ad, zq_ae, zq_af, zq_ag, ↓zq_ah, ↓zq_ai, ↓zq_aj, zq_ak, ↓zq_al, ↓zq_am, e_b1, e_b2, x_o1, x_o2, r_F9, r_F10, r_F13, r_F14, r_F15, r_F16, r_F17, r_F18, r_F20, r_F21, r_F22, r_F23, r_F24, r_F27, r_F28, r_F29, r_F30, r_F33, r_F34, r_F35, r_P9, r_P10, r_P13, r_P14, r_P15, r_P16, r_P17, r_P18, r_P20, r_P21, r_P22, r_P23, r_P24, r_P27, r_P28, r_P29, r_P30, r_P33, r_P34, r_P35, r_O0, r_O1, r_O2, r_O3, r_O4, r_O5, r_O6, r_O7, r_O8, r_O11, r_O12, r_O19, r_O25, r_O26, r_O31, r_O32, r_O36, r_O37, r_O38, r_O39, r_ff, c_up_s, h27, h28, wx, wn, c, d]
theorem rx_211 {u z : Int} {M : EM} (hu : 0 ≤ u ∧ u ≤ 500) (h205 : M 205 u.toNat = z) (hz : 0 ≤ z ∧ z ≤ 1000) : E_C 211 [192, u] M = some (u * z, M) := by
  have l1 : e_op 60 [205, u] M = some z := (r_rd5 (by omega) (by omega)).trans (by rw [h205])
  have pw := (bx_pw (u := u) (z := z) ⟨by omega, by omega⟩ hz).1
  have c : ¬ 500 < u := by omega
  rw [r_ent (show e_rok 211 [192, u] = true from decide_eq_true r_ref)]
  show e_tv E_C (E_V 211) e_t211_0 [192, u] M = _
  unfold e_t211_0
  simp [zq_a, zq_b, zq_c, zq_d, zq_e, zq_f, zq_g, zq_h, zq_i, zq_j, zq_k, zq_l, zq_m, zq_n, zq_o, zq_p, zq_q, zq_r, zq_s, zq_t, zq_u, zq_v, zq_w, zq_x, zq_y, zq_z, zq_A, zq_B, zq_C, zq_D, zq_E, zq_F, zq_G, zq_H, zq_I, zq_J, zq_K, zq_L, ↓zq_M, ↓zq_N, ↓zq_O, ↓zq_P, ↓zq_Q, ↓zq_R, zq_S, zq_T, zq_U, zq_V, zq_W, zq_X, zq_Y, zq_Z, zq_0, zq_1, zq_2, zq_3, zq_4, zq_5, ↓zq_6, ↓zq_7, ↓zq_8, ↓zq_9, ↓zq_aa, zq_ab, zq_ac, zq_ad, zq_ae, zq_af, zq_ag, ↓zq_ah, ↓zq_ai, ↓zq_aj, zq_ak, ↓zq_al, ↓zq_am, e_b1, e_b2, x_o1, x_o2, r_O25, l1, pw, c]
theorem rx_215 {z : Int × Int × Int × Int} {S : Int} {M : EM} (hz : sk_ok z) (hb : 1 ≤ b ∧ b ≤ 40) (hR : sk_R M z) (h205 : M 205 z.1.toNat = S) (hS : 0 ≤ S ∧ S ≤ 1000) (hP : P z.1 = z.1 * S) : ∃ M', E_C 215 [192, b] M = some (0, M') ∧ sk_R M' (sk_s P b z) ∧ ∀ id k, ¬ (id = 192 ∧ 27 ≤ k ∧ k ≤ 30) → M' id k = M id k := by
  have kp := rx_211 hz.1 h205 hS
  rw [← hP] at kp
  obtain ⟨hu, hr, hst⟩ := hz
  obtain ⟨h27, h28, h30, h29⟩ := hR
  unfold sk_s
  obtain ⟨u, r, st, l⟩ := z
  dsimp only at *
  clear hP h205
  revert kp
  generalize hv : P u = v
  intro kp
  obtain ⟨sg, hsg⟩ : ∃ sg, M 192 28 = sg := ⟨_, rfl⟩
  have e28 : sg = if r = 0 then 1 else -1 := by rw [← hsg, h28]
  by_cases c : st = 1 ∧ v < l
  · have ez : sk_z P u r st l = 1 - r := by
      unfold sk_z
      rw [hv]
      exact if_pos c
    rw [ez]
    obtain ⟨c1, c2⟩ := c
    subst c1
    have h29' := h29 rfl
    obtain ⟨sm, hsm⟩ : ∃ sm, -sg = sm := ⟨_, rfl⟩
    have hs : sm = (if 1 - r = 0 then 1 else -1) := by
      rcases hr with rfl | rfl
      · rw [if_pos rfl] at e28
        rw [if_neg (by decide)]
        omega
      · rw [if_neg (by decide)] at e28
        rw [if_pos (by decide)]
        omega
    have wm : e_w (-sg) = sm := by
      rw [hsm]
      rcases hr with rfl | rfl
      · rw [if_pos rfl] at e28
        exact a_w_id (by omega) (by omega)
      · rw [if_neg (by decide)] at e28
        exact a_w_id (by omega) (by omega)
    obtain ⟨M', k, a0, a1, a2, a3, a4⟩ := rx_33 (b := b) (v := v) (M := e_up M 192 28 sm) (r := 1 - r) ((r_ff (by decide)).trans h27) c_up_s hs (by omega) hu hb
    refine ⟨M', ?_, ⟨a0, a1, a2, fun _ => a3⟩, fun id k h => (a4 id k h).trans (c_up_n (by omega))⟩
    clear hs hsm e28 h28
    rw [r_ent (show e_rok 215 [192, b] = true from decide_eq_true r_ref)]
    show e_tv E_C (E_V 215) e_t215_0 [192, b, 0] M = _
    unfold e_t215_0
    simp [zq_a, zq_b, zq_c, zq_d, zq_e, zq_f, zq_g, zq_h, zq_i, zq_j, zq_k, zq_l, zq_m, zq_n, zq_o, zq_p, zq_q, zq_r, zq_s, zq_t, zq_u, zq_v, zq_w, zq_x, zq_y, zq_z, zq_A, zq_B, zq_C, zq_D, zq_E, zq_F, zq_G, zq_H, zq_I, zq_J, zq_K, zq_L, ↓zq_M, ↓zq_N, ↓zq_O, ↓zq_P, ↓zq_Q, ↓zq_R, zq_S, zq_T, zq_U, zq_V, zq_W, zq_X, zq_Y, zq_Z, zq_0, zq_1, zq_2, zq_3, zq_4, zq_5, ↓zq_6, ↓zq_7, ↓zq_8, ↓zq_9, ↓zq_aa, zq_ab, zq_ac, zq_ad, zq_ae, zq_af, zq_ag, ↓zq_ah, ↓zq_ai, ↓zq_aj, zq_ak, ↓zq_al, ↓zq_am, e_b1, e_b2, x_o1, x_o2, r_F9, r_F10, r_F13, r_F14, r_F15, r_F16, r_F17, r_F18, r_F20, r_F21, r_F22, r_F23, r_F24, r_F27, r_F28, r_F29, r_F30, r_F33, r_F34, r_F35, r_P9, r_P10, r_P13, r_P14, r_P15, r_P16, r_P17, r_P18, r_P20, r_P21, r_P22, r_P23, r_P24, r_P27, r_P28, r_P29, r_P30, r_P33, r_P34, r_P35, r_O0, r_O1, r_O2, r_O3, r_O4, r_O5, r_O6, r_O7, r_O8, r_O11, r_O12, r_O19, r_O25, r_O26, r_O31, r_O32, r_O36, r_O37, r_O38, r_O39, h27, hsg, h29', h30, kp, c2, wm, k]
  · have ez : sk_z P u r st l = r := by
      unfold sk_z
      rw [hv]
      exact if_neg c
    rw [ez]
    obtain ⟨M', k, a0, a1, a2, a3, a4⟩ := rx_33 (v := v) h27 hsg e28 hr hu hb
    refine ⟨M', ?_, ⟨a0, a1, a2, fun _ => a3⟩, a4⟩
    clear e28 h28
    rcases hst with rfl | rfl
    · rw [r_ent (show e_rok 215 [192, b] = true from decide_eq_true r_ref)]
      show e_tv E_C (E_V 215) e_t215_0 [192, b, 0] M = _
      unfold e_t215_0
      simp [zq_a, zq_b, zq_c, zq_d, zq_e, zq_f, zq_g, zq_h, zq_i, zq_j, zq_k, zq_l, zq_m, zq_n, zq_o, zq_p, zq_q, zq_r, zq_s, zq_t, zq_u, zq_v, zq_w, zq_x, zq_y, zq_z, zq_A, zq_B, zq_C, zq_D, zq_E, zq_F, zq_G, zq_H, zq_I, zq_J, zq_K, zq_L, ↓zq_M, ↓zq_N, ↓zq_O, ↓zq_P, ↓zq_Q, ↓zq_R, zq_S, zq_T, zq_U, zq_V, zq_W, zq_X, zq_Y, zq_Z, zq_0, zq_1, zq_2, zq_3, zq_4, zq_5, ↓zq_6, ↓zq_7, ↓zq_8, ↓zq_9, ↓zq_aa, zq_ab, zq_ac, zq_ad, zq_ae, zq_af, zq_ag, ↓zq_ah, ↓zq_ai, ↓zq_aj, zq_ak, ↓zq_al, ↓zq_am, e_b1, e_b2, x_o1, x_o2, r_F9, r_F10, r_F13, r_F14, r_F15, r_F16, r_F17, r_F18, r_F20, r_F21, r_F22, r_F23, r_F24, r_F27, r_F28, r_F29, r_F30, r_F33, r_F34, r_F35, r_P9, r_P10, r_P13, r_P14, r_P15, r_P16, r_P17, r_P18, r_P20, r_P21, r_P22, r_P23, r_P24, r_P27, r_P28, r_P29, r_P30, r_P33, r_P34, r_P35, r_O0, r_O1, r_O2, r_O3, r_O4, r_O5, r_O6, r_O7, r_O8, r_O11, r_O12, r_O19, r_O25, r_O26, r_O31, r_O32, r_O36, r_O37, r_O38, r_O39, h27, h30, kp, k]
    · have h29' := h29 rfl
      have c2 : ¬ v < l := fun e => c ⟨rfl, e⟩
      have c3 : l ≤ v := by omega
      rw [r_ent (show e_rok 215 [192, b] = true from decide_eq_true r_ref)]
      show e_tv E_C (E_V 215) e_t215_0 [192, b, 0] M = _
      unfold e_t215_0
      simp [zq_a, zq_b, zq_c, zq_d, zq_e, zq_f, zq_g, zq_h, zq_i, zq_j, zq_k, zq_l, zq_m, zq_n, zq_o, zq_p, zq_q, zq_r, zq_s, zq_t, zq_u, zq_v, zq_w, zq_x, zq_y, zq_z, zq_A, zq_B, zq_C, zq_D, zq_E, zq_F, zq_G, zq_H, zq_I, zq_J, zq_K, zq_L, ↓zq_M, ↓zq_N, ↓zq_O, ↓zq_P, ↓zq_Q, ↓zq_R, zq_S, zq_T, zq_U, zq_V, zq_W, zq_X, zq_Y, zq_Z, zq_0, zq_1, zq_2, zq_3, zq_4, zq_5, ↓zq_6, ↓zq_7, ↓zq_8, ↓zq_9, ↓zq_aa, zq_ab, zq_ac, zq_ad, zq_ae, zq_af, zq_ag, ↓zq_ah, ↓zq_ai, ↓zq_aj, zq_ak, ↓zq_al, ↓zq_am, e_b1, e_b2, x_o1, x_o2, r_F9, r_F10, r_F13, r_F14, r_F15, r_F16, r_F17, r_F18, r_F20, r_F21, r_F22, r_F23, r_F24, r_F27, r_F28, r_F29, r_F30, r_F33, r_F34, r_F35, r_P9, r_P10, r_P13, r_P14, r_P15, r_P16, r_P17, r_P18, r_P20, r_P21, r_P22, r_P23, r_P24, r_P27, r_P28, r_P29, r_P30, r_P33, r_P34, r_P35, r_O0, r_O1, r_O2, r_O3, r_O4, r_O5, r_O6, r_O7, r_O8, r_O11, r_O12, r_O19, r_O25, r_O26, r_O31, r_O32, r_O36, r_O37, r_O38, r_O39, h27, h29', h30, kp, c2, c3, k]
/-- the reference: steps -/
theorem rx_104 (hp : 0 ≤ p ∧ p < 40) {S : Int → Int} (hb : 1 ≤ b ∧ b ≤ 40) (hS : ∀ u, 0 ≤ u ∧ u ≤ 500 → 0 ≤ S u ∧ S u ≤ 1000) (hn : n ≤ 100) : ∀ (d : Nat) (x4 : Int) (z : Int × Int × Int × Int) (M : EM), sk_ok z → sk_R M z → r_G M (28 * p + 4 + 1) = b → (∀ u : Nat, u ≤ 500 → M 205 u = S (u : Int)) → n - x4 = d → 0 ≤ x4 → ∃ N, E_V 216 104 [192, p, n, 28 * p + 4, x4] M = some ((sk_i (fun u => u * S u) b d z).1, e_up (e_up (e_up (e_up N 193 (28 * p + 4).toNat (N 192 27)) 193 (28 * p + 4 + 2).toNat (N 192 28)) 193 (28 * p + 4 + 3).toNat 1) 193 (28 * p + 4 + 4).toNat (N 192 29)) ∧ sk_R N (sk_i (fun u => u * S u) b d z) ∧ ∀ id k, ¬ (id = 192 ∧ 27 ≤ k ∧ k ≤ 30) → N id k = M id k := by
  intro d
  induction d with
  | zero =>
    intro x4 z M hz hR hg h205 hd h0
    refine ⟨M, ?_, hR, fun _ _ _ => rfl⟩
    show _ = some (z.1, _)
    have q : ¬ x4 < n := by omega
    obtain ⟨c0, -⟩ := hR
    have w2 : e_w (28 * p + 4 + 2) = 28 * p + 4 + 2 := a_w_id (by omega) (by omega)
    have w3 : e_w (28 * p + 4 + 3) = 28 * p + 4 + 3 := a_w_id (by omega) (by omega)
    have w4 : e_w (28 * p + 4 + 4) = 28 * p + 4 + 4 := a_w_id (by omega) (by omega)
    have s0 := fun v M => r_stw (i := 28 * p + 4) (v := v) (M := M) (by omega) (by omega)
    have s2 := fun v M => r_stw (i := 28 * p + 4 + 2) (v := v) (M := M) (by omega) (by omega)
    have s3 := fun v M => r_stw (i := 28 * p + 4 + 3) (v := v) (M := M) (by omega) (by omega)
    have s4 := fun v M => r_stw (i := 28 * p + 4 + 4) (v := v) (M := M) (by omega) (by omega)
    have n193 : ∀ (M : EM) (i v : Int) (k : Nat), (e_up M 193 i.toNat v) 192 k = M 192 k := fun M i v k => r_n193 (by decide)
    rw [← c0]
    clear h205 hS c0 hg hz
    rw [E_V_eq]
    show e_tv E_C (E_V 216) e_t216_104 [192, p, n, 28 * p + 4, x4] M = _
    unfold e_t216_104
    simp [zq_a, zq_b, zq_c, zq_d, zq_e, zq_f, zq_g, zq_h, zq_i, zq_j, zq_k, zq_l, zq_m, zq_n, zq_o, zq_p, zq_q, zq_r, zq_s, zq_t, zq_u, zq_v, zq_w, zq_x, zq_y, zq_z, zq_A, zq_B, zq_C, zq_D, zq_E, zq_F, zq_G, zq_H, zq_I, zq_J, zq_K, zq_L, ↓zq_M, ↓zq_N, ↓zq_O, ↓zq_P, ↓zq_Q, ↓zq_R, zq_S, zq_T, zq_U, zq_V, zq_W, zq_X, zq_Y, zq_Z, zq_0, zq_1, zq_2, zq_3, zq_4, zq_5, ↓zq_6, ↓zq_7, ↓zq_8, ↓zq_9, ↓zq_aa, zq_ab, zq_ac, zq_ad, zq_ae, zq_af, zq_ag, ↓zq_ah, ↓zq_ai, ↓zq_aj, zq_ak, ↓zq_al, ↓zq_am, e_b1, e_b2, x_o1, x_o2, r_F9, r_F10, r_F13, r_F14, r_F15, r_F16, r_F17, r_F18, r_F20, r_F21, r_F22, r_F23, r_F24, r_F27, r_F28, r_F29, r_F30, r_F33, r_F34, r_F35, r_P9, r_P10, r_P13, r_P14, r_P15, r_P16, r_P17, r_P18, r_P20, r_P21, r_P22, r_P23, r_P24, r_P27, r_P28, r_P29, r_P30, r_P33, r_P34, r_P35, r_O0, r_O1, r_O2, r_O3, r_O4, r_O5, r_O6, r_O7, r_O8, r_O11, r_O12, r_O19, r_O25, r_O26, r_O31, r_O32, r_O36, r_O37, r_O38, r_O39, q, w2, w3, w4, s0, s2, s3, s4, n193]
  | succ d ih =>
    intro x4 z M hz hR hg h205 hd h0
    have q : x4 < n := by omega
    have w : e_w (x4 + 1) = x4 + 1 := a_w_id (by omega) (by omega)
    have w1 : e_w (28 * p + 4 + 1) = 28 * p + 4 + 1 := a_w_id (by omega) (by omega)
    have l1 : e_op 60 [193, 28 * p + 4 + 1] M = some b := (r_rd (by omega) (by omega)).trans (by rw [hg])
    obtain ⟨uu, huu⟩ : ∃ uu : Nat, z.1 = uu := ⟨z.1.toNat, by have := hz.1; omega⟩
    have e205 : M 205 z.1.toNat = S z.1 := by
      have := hz.1
      rw [show z.1.toNat = uu by omega, h205 uu (by omega), huu]
    obtain ⟨M1, k1, t1, t2⟩ := rx_215 (P := fun u => u * S u) hz hb hR e205 (hS z.1 hz.1) rfl
    obtain ⟨N, k, m1, m2⟩ := ih (x4 + 1) (sk_s (fun u => u * S u) b z) M1 (sk_ok_s hz) t1 ((t2 193 (28 * p + 4 + 1).toNat (by omega)).trans hg) (fun u hu => (t2 _ _ (by omega)).trans (h205 u hu)) (by omega) (by omega)
    refine ⟨N, ?_, m1, fun id k h => (m2 id k h).trans (t2 id k h)⟩
    show _ = some ((sk_i (fun u => u * S u) b d (sk_s (fun u => u * S u) b z)).1, _)
    rw [← k]
    clear h205 hS ih k m1 m2 e205 huu t1 t2 hg
    rw [E_V_eq]
    show e_tv E_C (E_V 216) e_t216_104 [192, p, n, 28 * p + 4, x4] M = _
    unfold e_t216_104
    simp [zq_a, zq_b, zq_c, zq_d, zq_e, zq_f, zq_g, zq_h, zq_i, zq_j, zq_k, zq_l, zq_m, zq_n, zq_o, zq_p, zq_q, zq_r, zq_s, zq_t, zq_u, zq_v, zq_w, zq_x, zq_y, zq_z, zq_A, zq_B, zq_C, zq_D, zq_E, zq_F, zq_G, zq_H, zq_I, zq_J, zq_K, zq_L, ↓zq_M, ↓zq_N, ↓zq_O, ↓zq_P, ↓zq_Q, ↓zq_R, zq_S, zq_T, zq_U, zq_V, zq_W, zq_X, zq_Y, zq_Z, zq_0, zq_1, zq_2, zq_3, zq_4, zq_5, ↓zq_6, ↓zq_7, ↓zq_8, ↓zq_9, ↓zq_aa, zq_ab, zq_ac, zq_ad, zq_ae, zq_af, zq_ag, ↓zq_ah, ↓zq_ai, ↓zq_aj, zq_ak, ↓zq_al, ↓zq_am, e_b1, e_b2, x_o1, x_o2, r_O0, q, w, w1, l1, k1]
end RXK
end
section
/-! seek: the pair; what BOXES seek by stays related -/
section AXP
variable {M M1 M2 : EM} {p n r1 r2 : Int}
theorem ax_115s : E_C 115 [8, p, n] M = e_tv E_C (E_V 115) e_t115_0 [8, p, n, 0, 0] M := r_ent (u := 115) (as := [8, p, n]) (M := M) (decide_eq_true c_this)
theorem ax_115a {i : Int} (ip : E_C 149 [8, p] M = some (i, M)) (h : i = 0 ∨ (i = 1 ∧ ¬ (1 ≤ n ∧ n ≤ 100))) : E_C 115 [8, p, n] M = some (-1, M) := by
  rw [ax_115s]
  unfold e_t115_0
  rcases h with h | ⟨h, hb⟩
  · subst h
    simp [zq_a, zq_b, zq_c, zq_d, zq_e, zq_f, zq_g, zq_h, zq_i, zq_j, zq_k, zq_l, zq_m, zq_n, zq_o, zq_p, zq_q, zq_r, zq_s, zq_t, zq_u, zq_v, zq_w, zq_x, zq_y, zq_z, zq_A, zq_B, zq_C, zq_D, zq_E, zq_F, zq_G, zq_H, zq_I, zq_J, zq_K, zq_L, ↓zq_M, ↓zq_N, ↓zq_O, ↓zq_P, ↓zq_Q, ↓zq_R, zq_S, zq_T, zq_U, zq_V, zq_W, zq_X, zq_Y, zq_Z, zq_0, zq_1, zq_2, zq_3, zq_4, zq_5, ↓zq_6, ↓zq_7, ↓zq_8, ↓zq_9, ↓zq_aa, zq_ab, zq_ac, zq_ad, zq_ae, zq_af, zq_ag, ↓zq_ah, ↓zq_ai, ↓zq_aj, zq_ak, ↓zq_al, ↓zq_am, e_b1, e_b2, x_o1, x_o2, ip]
  · subst h
    rcases x_le 1 n with ⟨c0, c0_n⟩ | ⟨c0, c0_n⟩
    · have d1 : 100 < n := by omega
      simp [zq_a, zq_b, zq_c, zq_d, zq_e, zq_f, zq_g, zq_h, zq_i, zq_j, zq_k, zq_l, zq_m, zq_n, zq_o, zq_p, zq_q, zq_r, zq_s, zq_t, zq_u, zq_v, zq_w, zq_x, zq_y, zq_z, zq_A, zq_B, zq_C, zq_D, zq_E, zq_F, zq_G, zq_H, zq_I, zq_J, zq_K, zq_L, ↓zq_M, ↓zq_N, ↓zq_O, ↓zq_P, ↓zq_Q, ↓zq_R, zq_S, zq_T, zq_U, zq_V, zq_W, zq_X, zq_Y, zq_Z, zq_0, zq_1, zq_2, zq_3, zq_4, zq_5, ↓zq_6, ↓zq_7, ↓zq_8, ↓zq_9, ↓zq_aa, zq_ab, zq_ac, zq_ad, zq_ae, zq_af, zq_ag, ↓zq_ah, ↓zq_ai, ↓zq_aj, zq_ak, ↓zq_al, ↓zq_am, e_b1, e_b2, x_o1, x_o2, ip, c0, c0_n, d1]
    · simp [zq_a, zq_b, zq_c, zq_d, zq_e, zq_f, zq_g, zq_h, zq_i, zq_j, zq_k, zq_l, zq_m, zq_n, zq_o, zq_p, zq_q, zq_r, zq_s, zq_t, zq_u, zq_v, zq_w, zq_x, zq_y, zq_z, zq_A, zq_B, zq_C, zq_D, zq_E, zq_F, zq_G, zq_H, zq_I, zq_J, zq_K, zq_L, ↓zq_M, ↓zq_N, ↓zq_O, ↓zq_P, ↓zq_Q, ↓zq_R, zq_S, zq_T, zq_U, zq_V, zq_W, zq_X, zq_Y, zq_Z, zq_0, zq_1, zq_2, zq_3, zq_4, zq_5, ↓zq_6, ↓zq_7, ↓zq_8, ↓zq_9, ↓zq_aa, zq_ab, zq_ac, zq_ad, zq_ae, zq_af, zq_ag, ↓zq_ah, ↓zq_ai, ↓zq_aj, zq_ak, ↓zq_al, ↓zq_am, e_b1, e_b2, x_o1, x_o2, ip, c0, c0_n]
theorem ax_115b (ip : E_C 149 [8, p] M = some (1, M)) (h : 1 ≤ n ∧ n ≤ 100) (k : E_C 155 [8, p] M = some (-1, M)) : E_C 115 [8, p, n] M = some (-3, M) := by
  obtain ⟨d0, d1⟩ := h
  have d2 : ¬ 100 < n := by omega
  rw [ax_115s]
  unfold e_t115_0
  simp [zq_a, zq_b, zq_c, zq_d, zq_e, zq_f, zq_g, zq_h, zq_i, zq_j, zq_k, zq_l, zq_m, zq_n, zq_o, zq_p, zq_q, zq_r, zq_s, zq_t, zq_u, zq_v, zq_w, zq_x, zq_y, zq_z, zq_A, zq_B, zq_C, zq_D, zq_E, zq_F, zq_G, zq_H, zq_I, zq_J, zq_K, zq_L, ↓zq_M, ↓zq_N, ↓zq_O, ↓zq_P, ↓zq_Q, ↓zq_R, zq_S, zq_T, zq_U, zq_V, zq_W, zq_X, zq_Y, zq_Z, zq_0, zq_1, zq_2, zq_3, zq_4, zq_5, ↓zq_6, ↓zq_7, ↓zq_8, ↓zq_9, ↓zq_aa, zq_ab, zq_ac, zq_ad, zq_ae, zq_af, zq_ag, ↓zq_ah, ↓zq_ai, ↓zq_aj, zq_ak, ↓zq_al, ↓zq_am, e_b1, e_b2, x_o1, x_o2, ip, k, d0, d1, d2]
theorem ax_115c {s : Nat} {N M' : EM} {r : EO} (ip : E_C 149 [8, p] M = some (1, M)) (h : 1 ≤ n ∧ n ≤ 100) (hs : 37 ≤ s ∧ s < 77) (k : E_C 155 [8, p] M = some ((s : Int), M)) (k1 : E_C 1 [170, p] M = some (0, N)) (k2 : E_C 21 [170] N = some (0, M')) (k3 : E_V 115 52 [8, p, n, (s : Int), 0] M' = r) : E_C 115 [8, p, n] M = r := by
  obtain ⟨d0, d1⟩ := h
  have d2 : ¬ 100 < n := by omega
  have n1 : ¬ ((s : Int) = -1) := by omega
  rw [ax_115s]
  unfold e_t115_0
  simp [zq_a, zq_b, zq_c, zq_d, zq_e, zq_f, zq_g, zq_h, zq_i, zq_j, zq_k, zq_l, zq_m, zq_n, zq_o, zq_p, zq_q, zq_r, zq_s, zq_t, zq_u, zq_v, zq_w, zq_x, zq_y, zq_z, zq_A, zq_B, zq_C, zq_D, zq_E, zq_F, zq_G, zq_H, zq_I, zq_J, zq_K, zq_L, ↓zq_M, ↓zq_N, ↓zq_O, ↓zq_P, ↓zq_Q, ↓zq_R, zq_S, zq_T, zq_U, zq_V, zq_W, zq_X, zq_Y, zq_Z, zq_0, zq_1, zq_2, zq_3, zq_4, zq_5, ↓zq_6, ↓zq_7, ↓zq_8, ↓zq_9, ↓zq_aa, zq_ab, zq_ac, zq_ad, zq_ae, zq_af, zq_ag, ↓zq_ah, ↓zq_ai, ↓zq_aj, zq_ak, ↓zq_al, ↓zq_am, e_b1, e_b2, x_o1, x_o2, ax_bench, ip, k, d0, d1, d2, n1, k1, k2, k3]
theorem ax_216a {i : Int} (ip : E_C 169 [192, p] M = some (i, M)) (h : i = 0 ∨ (i = 1 ∧ ¬ (1 ≤ n ∧ n ≤ 100))) : E_C 216 [192, p, n] M = some (-1, M) := by
  rcases h with h | ⟨h, hb⟩
  · subst h
    rw [r_ent (show e_rok 216 [192, p, n] = true from decide_eq_true r_ref)]
    show e_tv E_C (E_V 216) e_t216_0 [192, p, n, 0, 0] M = _
    unfold e_t216_0
    simp [zq_a, zq_b, zq_c, zq_d, zq_e, zq_f, zq_g, zq_h, zq_i, zq_j, zq_k, zq_l, zq_m, zq_n, zq_o, zq_p, zq_q, zq_r, zq_s, zq_t, zq_u, zq_v, zq_w, zq_x, zq_y, zq_z, zq_A, zq_B, zq_C, zq_D, zq_E, zq_F, zq_G, zq_H, zq_I, zq_J, zq_K, zq_L, ↓zq_M, ↓zq_N, ↓zq_O, ↓zq_P, ↓zq_Q, ↓zq_R, zq_S, zq_T, zq_U, zq_V, zq_W, zq_X, zq_Y, zq_Z, zq_0, zq_1, zq_2, zq_3, zq_4, zq_5, ↓zq_6, ↓zq_7, ↓zq_8, ↓zq_9, ↓zq_aa, zq_ab, zq_ac, zq_ad, zq_ae, zq_af, zq_ag, ↓zq_ah, ↓zq_ai, ↓zq_aj, zq_ak, ↓zq_al, ↓zq_am, e_b1, e_b2, x_o1, x_o2, ip]
  · subst h
    have i1 := r_in0 (M := M) hb
    rw [r_ent (show e_rok 216 [192, p, n] = true from decide_eq_true r_ref)]
    show e_tv E_C (E_V 216) e_t216_0 [192, p, n, 0, 0] M = _
    unfold e_t216_0
    simp [zq_a, zq_b, zq_c, zq_d, zq_e, zq_f, zq_g, zq_h, zq_i, zq_j, zq_k, zq_l, zq_m, zq_n, zq_o, zq_p, zq_q, zq_r, zq_s, zq_t, zq_u, zq_v, zq_w, zq_x, zq_y, zq_z, zq_A, zq_B, zq_C, zq_D, zq_E, zq_F, zq_G, zq_H, zq_I, zq_J, zq_K, zq_L, ↓zq_M, ↓zq_N, ↓zq_O, ↓zq_P, ↓zq_Q, ↓zq_R, zq_S, zq_T, zq_U, zq_V, zq_W, zq_X, zq_Y, zq_Z, zq_0, zq_1, zq_2, zq_3, zq_4, zq_5, ↓zq_6, ↓zq_7, ↓zq_8, ↓zq_9, ↓zq_aa, zq_ab, zq_ac, zq_ad, zq_ae, zq_af, zq_ag, ↓zq_ah, ↓zq_ai, ↓zq_aj, zq_ak, ↓zq_al, ↓zq_am, e_b1, e_b2, x_o1, x_o2, ip, i1]
theorem ax_216b (ip : E_C 169 [192, p] M = some (1, M)) (h : 1 ≤ n ∧ n ≤ 100) (kk : E_C 170 [192, p] M = some (r_G M (28 * p), M)) (k3 : r_G M (28 * p) ≠ 3) : E_C 216 [192, p, n] M = some (-3, M) := by
  have i1 := r_in1 (M := M) h
  rw [r_ent (show e_rok 216 [192, p, n] = true from decide_eq_true r_ref)]
  show e_tv E_C (E_V 216) e_t216_0 [192, p, n, 0, 0] M = _
  unfold e_t216_0
  simp [zq_a, zq_b, zq_c, zq_d, zq_e, zq_f, zq_g, zq_h, zq_i, zq_j, zq_k, zq_l, zq_m, zq_n, zq_o, zq_p, zq_q, zq_r, zq_s, zq_t, zq_u, zq_v, zq_w, zq_x, zq_y, zq_z, zq_A, zq_B, zq_C, zq_D, zq_E, zq_F, zq_G, zq_H, zq_I, zq_J, zq_K, zq_L, ↓zq_M, ↓zq_N, ↓zq_O, ↓zq_P, ↓zq_Q, ↓zq_R, zq_S, zq_T, zq_U, zq_V, zq_W, zq_X, zq_Y, zq_Z, zq_0, zq_1, zq_2, zq_3, zq_4, zq_5, ↓zq_6, ↓zq_7, ↓zq_8, ↓zq_9, ↓zq_aa, zq_ab, zq_ac, zq_ad, zq_ae, zq_af, zq_ag, ↓zq_ah, ↓zq_ai, ↓zq_aj, zq_ak, ↓zq_al, ↓zq_am, e_b1, e_b2, x_o1, x_o2, ip, i1, kk, k3]
def ax_q0 (M : EM) (g : Int → Int) (p st : Int) : EM := e_up (e_up (e_up (e_up M 192 27 (g (28 * p + 4))) 192 28 (g (28 * p + 4 + 2))) 192 30 st) 192 29 (g (28 * p + 4 + 4))
theorem ax_216c {g : Int → Int} {st : Int} {M' : EM} {r : EO} (hG : r_G M = g) (hp : 0 ≤ p ∧ p < 40) (ip : E_C 169 [192, p] M = some (1, M)) (h : 1 ≤ n ∧ n ≤ 100) (kk : E_C 170 [192, p] M = some (r_G M (28 * p), M)) (k3 : g (28 * p) = 3) (k1 : E_C 203 [192, p] M = some (0, M')) (hG' : r_G M' = g) (hst : (g (28 * p + 4 + 3) = 1 ∧ st = 1) ∨ (g (28 * p + 4 + 3) = 0 ∧ st = 0)) (k4 : E_V 216 104 [192, p, n, 28 * p + 4, 0] (ax_q0 M' g p st) = r) : E_C 216 [192, p, n] M = r := by
  have i1 := r_in1 (M := M) h
  rw [hG, k3] at kk
  have w1 : e_w (28 * p) = 28 * p := a_w_id (by omega) (by omega)
  have w2 : e_w (28 * p + 4) = 28 * p + 4 := a_w_id (by omega) (by omega)
  have w3 : e_w (28 * p + 4 + 2) = 28 * p + 4 + 2 := a_w_id (by omega) (by omega)
  have w4 : e_w (28 * p + 4 + 3) = 28 * p + 4 + 3 := a_w_id (by omega) (by omega)
  have w5 : e_w (28 * p + 4 + 4) = 28 * p + 4 + 4 := a_w_id (by omega) (by omega)
  have gf : ∀ (M : EM) (k : Nat) (v : Int), r_G (e_up M 192 k v) = r_G M := fun M k v => r_up_Gne (by decide)
  have l0 := fun M => r_rd (i := 28 * p + 4) (M := M) (by omega) (by omega)
  have l2 := fun M => r_rd (i := 28 * p + 4 + 2) (M := M) (by omega) (by omega)
  have l3 := fun M => r_rd (i := 28 * p + 4 + 3) (M := M) (by omega) (by omega)
  have l4 := fun M => r_rd (i := 28 * p + 4 + 4) (M := M) (by omega) (by omega)
  unfold ax_q0 at k4
  rcases hst with ⟨c, rfl⟩ | ⟨c, rfl⟩
  · rw [r_ent (show e_rok 216 [192, p, n] = true from decide_eq_true r_ref)]
    show e_tv E_C (E_V 216) e_t216_0 [192, p, n, 0, 0] M = _
    unfold e_t216_0
    simp [zq_a, zq_b, zq_c, zq_d, zq_e, zq_f, zq_g, zq_h, zq_i, zq_j, zq_k, zq_l, zq_m, zq_n, zq_o, zq_p, zq_q, zq_r, zq_s, zq_t, zq_u, zq_v, zq_w, zq_x, zq_y, zq_z, zq_A, zq_B, zq_C, zq_D, zq_E, zq_F, zq_G, zq_H, zq_I, zq_J, zq_K, zq_L, ↓zq_M, ↓zq_N, ↓zq_O, ↓zq_P, ↓zq_Q, ↓zq_R, zq_S, zq_T, zq_U, zq_V, zq_W, zq_X, zq_Y, zq_Z, zq_0, zq_1, zq_2, zq_3, zq_4, zq_5, ↓zq_6, ↓zq_7, ↓zq_8, ↓zq_9, ↓zq_aa, zq_ab, zq_ac, zq_ad, zq_ae, zq_af, zq_ag, ↓zq_ah, ↓zq_ai, ↓zq_aj, zq_ak, ↓zq_al, ↓zq_am, e_b1, e_b2, x_o1, x_o2, r_F9, r_F10, r_F13, r_F14, r_F15, r_F16, r_F17, r_F18, r_F20, r_F21, r_F22, r_F23, r_F24, r_F27, r_F28, r_F29, r_F30, r_F33, r_F34, r_F35, r_P9, r_P10, r_P13, r_P14, r_P15, r_P16, r_P17, r_P18, r_P20, r_P21, r_P22, r_P23, r_P24, r_P27, r_P28, r_P29, r_P30, r_P33, r_P34, r_P35, r_O0, r_O1, r_O2, r_O3, r_O4, r_O5, r_O6, r_O7, r_O8, r_O11, r_O12, r_O19, r_O25, r_O26, r_O31, r_O32, r_O36, r_O37, r_O38, r_O39, ip, i1, kk, w1, w2, w3, w4, w5, k1, l0, l2, l3, l4, gf, hG', c, k4]
  · rw [r_ent (show e_rok 216 [192, p, n] = true from decide_eq_true r_ref)]
    show e_tv E_C (E_V 216) e_t216_0 [192, p, n, 0, 0] M = _
    unfold e_t216_0
    simp [zq_a, zq_b, zq_c, zq_d, zq_e, zq_f, zq_g, zq_h, zq_i, zq_j, zq_k, zq_l, zq_m, zq_n, zq_o, zq_p, zq_q, zq_r, zq_s, zq_t, zq_u, zq_v, zq_w, zq_x, zq_y, zq_z, zq_A, zq_B, zq_C, zq_D, zq_E, zq_F, zq_G, zq_H, zq_I, zq_J, zq_K, zq_L, ↓zq_M, ↓zq_N, ↓zq_O, ↓zq_P, ↓zq_Q, ↓zq_R, zq_S, zq_T, zq_U, zq_V, zq_W, zq_X, zq_Y, zq_Z, zq_0, zq_1, zq_2, zq_3, zq_4, zq_5, ↓zq_6, ↓zq_7, ↓zq_8, ↓zq_9, ↓zq_aa, zq_ab, zq_ac, zq_ad, zq_ae, zq_af, zq_ag, ↓zq_ah, ↓zq_ai, ↓zq_aj, zq_ak, ↓zq_al, ↓zq_am, e_b1, e_b2, x_o1, x_o2, r_F9, r_F10, r_F13, r_F14, r_F15, r_F16, r_F17, r_F18, r_F20, r_F21, r_F22, r_F23, r_F24, r_F27, r_F28, r_F29, r_F30, r_F33, r_F34, r_F35, r_P9, r_P10, r_P13, r_P14, r_P15, r_P16, r_P17, r_P18, r_P20, r_P21, r_P22, r_P23, r_P24, r_P27, r_P28, r_P29, r_P30, r_P33, r_P34, r_P35, r_O0, r_O1, r_O2, r_O3, r_O4, r_O5, r_O6, r_O7, r_O8, r_O11, r_O12, r_O19, r_O25, r_O26, r_O31, r_O32, r_O36, r_O37, r_O38, r_O39, ip, i1, kk, w1, w2, w3, w4, w5, k1, l0, l2, l3, l4, gf, hG', c, k4]
theorem ax_seek (h : hd_all M) (J1 : r_J M1) (K1 : rx_K M1) (hfr : ∀ i, M1 193 i = M 193 i) (k1 : E_C 115 [8, p, n] M = some (r1, M1)) (k2 : E_C 216 [192, p, n] M1 = some (r2, M2)) : r1 = r2 ∧ hd_D M2 0 (r_G M2) ∧ M2 171 0 = 0 := by
  have eG : r_G M1 = r_G M := funext fun i => hfr _
  have hW := (r_J_E J1).2.1
  have hB := h.1
  have hD := h.2.2.1
  have h10 : M 10 0 = r_G M 1198 := hB.1
  have i := h_149 (k := p) (M := M)
  rw [h10] at i
  have keep : M1 = M → M2 = M1 → hd_D M2 0 (r_G M2) ∧ M2 171 0 = 0 := fun e1 e2 => by rw [e2, e1]; exact ⟨hD, h.2.2.2⟩
  by_cases c : 0 ≤ p ∧ p < r_G M 1198
  · rw [if_pos c] at i
    have c' : 0 ≤ p ∧ p < r_G M1 1198 := by rw [eG]; exact c
    have ip := r_ip1 hW c'
    have h40 := r_40 hW c'
    have kk : E_C 170 [192, p] M1 = some (r_G M1 (28 * p), M1) := r_kind h40
    by_cases b : 1 ≤ n ∧ n ≤ 100
    · obtain ⟨q, rfl⟩ : ∃ q : Nat, p = q := ⟨p.toNat, by omega⟩
      have s := ax_155 (q := q) (M := M) (by omega)
      obtain ⟨q1, -⟩ := hB.2.2 q c.2
      have q1 : M 11 q = r_G M (28 * (q : Int)) := q1
      by_cases k3 : M 11 q = 3
      · rw [if_pos k3] at s
        have k3' : r_G M (28 * (q : Int)) = 3 := q1.symm.trans k3
        obtain ⟨-, -, -, d3⟩ := hD q c.2
        obtain ⟨-, ⟨s0, s1, s2⟩, ⟨t0, t1, t2⟩, e6, e7⟩ := d3 k3'
        have s0 : M (37 + q) 0 = r_G M (28 * (q : Int) + 4) := s0
        have t0 : M (37 + q) 1 = r_G M (28 * (q : Int) + 5) := t0
        have e6 : (M (37 + q) 2 = 0 ∧ r_G M (28 * (q : Int) + 6) = 1) ∨ (M (37 + q) 2 = 1 ∧ r_G M (28 * (q : Int) + 6) = -1) := e6
        have e7 : (M (37 + q) 3 = 0 ∧ r_G M (28 * (q : Int) + 7) = 0) ∨ (M (37 + q) 3 = 1 ∧ r_G M (28 * (q : Int) + 7) = 1 ∧ M (37 + q) 4 = r_G M (28 * (q : Int) + 8) ∧ 0 ≤ r_G M (28 * (q : Int) + 8) ∧ r_G M (28 * (q : Int) + 8) ≤ 1000000) := e7
        obtain ⟨N, A, a1, a2, a6, a181, -, -, afr, a171, -⟩ := ax_fb h c.2
        obtain ⟨z, hz⟩ : ∃ z : Int × Int × Int × Int, z = (r_G M (28 * (q : Int) + 4), M (37 + q) 2, M (37 + q) 3, M (37 + q) 4) := ⟨_, rfl⟩
        have zok : sk_ok z := by
          rw [hz]
          exact ⟨⟨s1, s2⟩, by rcases e6 with e | e; exact Or.inl e.1; exact Or.inr e.1, by rcases e7 with e | e; exact Or.inl e.1; exact Or.inr e.1⟩
        have af : ∀ k, A (37 + q) k = M (37 + q) k := fun k => congrFun (afr (37 + q) (by omega)) k
        have zC : sk_C A (37 + q) (r_G M (28 * (q : Int) + 5)) z := by
          rw [hz]
          exact ⟨(af 0).trans s0, (af 1).trans t0, af 2, af 3, fun _ => af 4⟩
        have L6 := (ax_L6 h (q : Int)).resolve_right (fun e => e c)
        have SB : ∀ u : Int, 0 ≤ ax_S (r_G M) (q : Int) u ∧ ax_S (r_G M) (q : Int) u ≤ 600 := fun u => bx_s_bd L6
        have SB' : ∀ u : Int, 0 ≤ u ∧ u ≤ 500 → 0 ≤ ax_S (r_G M) (q : Int) u ∧ ax_S (r_G M) (q : Int) u ≤ 1000 := fun u _ => ⟨(SB u).1, by have := (SB u).2; omega⟩
        obtain ⟨d, hd⟩ : ∃ d : Nat, n = ((d + 1 : Nat) : Int) := ⟨(n - 1).toNat, by omega⟩
        obtain ⟨B, b1, b2, b3⟩ := ax_52 (p := (q : Int)) (s := 37 + q) (by omega) ⟨t1, t2⟩ SB' b.2 (d + 1) 0 z A zok zC a6 a181 (by omega) (by decide)
        obtain ⟨e1, e2⟩ := Prod.mk.inj (Option.some.inj (k1.symm.trans (ax_115c i b (by omega) s a1 a2 b1)))
        -- the reference
        obtain ⟨R, g1, g2, g3⟩ := ax_gives eG J1 K1 (hd_cs_of h.2.1) (hd_cvs_of hD) c.2
        have eGR : r_G R = r_G M := (rx_sm_G g2).trans eG
        have z4 : 28 * (q : Int) + 4 + 2 = 28 * (q : Int) + 6 := by omega
        have z5 : 28 * (q : Int) + 4 + 3 = 28 * (q : Int) + 7 := by omega
        have z6 : 28 * (q : Int) + 4 + 4 = 28 * (q : Int) + 8 := by omega
        have z7 : 28 * (q : Int) + 4 + 1 = 28 * (q : Int) + 5 := by omega
        have zR : sk_R (ax_q0 R (r_G M) (q : Int) (M (37 + q) 3)) z := by
          rw [hz]
          unfold ax_q0
          refine ⟨by simp [c_up_s, r_ff], ?_, by simp [c_up_s, r_ff], fun h1 => ?_⟩
          · rw [r_ff (by decide), r_ff (by decide), c_up_s, z4]
            rcases e6 with e | e
            · rw [e.2]; exact (if_pos e.1).symm
            · rw [e.2]; exact (if_neg (by show ¬ M (37 + q) 2 = 0; rw [e.1]; decide)).symm
          · rw [c_up_s, z6]
            rcases e7 with e | e
            · exact absurd (e.1.symm.trans h1) (by decide)
            · exact e.2.2.1.symm
        have gq : ∀ id k, id ≠ 192 → ax_q0 R (r_G M) (q : Int) (M (37 + q) 3) id k = R id k := fun id k hid => by
          unfold ax_q0
          rw [c_up_n (by omega), c_up_n (by omega), c_up_n (by omega), c_up_n (by omega)]
        obtain ⟨Q, f1, f2, f3⟩ := rx_104 (n := n) h40 ⟨t1, t2⟩ SB' b.2 (d + 1) 0 z (ax_q0 R (r_G M) (q : Int) (M (37 + q) 3)) zok zR (by rw [z7]; exact (gq 193 _ (by decide)).trans (congrFun eGR _)) (fun u hu => (gq _ _ (by decide)).trans (g3 u (by omega))) (by omega) (by decide)
        have k216 := ax_216c (n := n) (st := M (37 + q) 3) eG h40 ip b kk k3' g1 eGR (by
          rw [z5]
          rcases e7 with e | e
          · exact Or.inr ⟨e.2, e.1⟩
          · exact Or.inl ⟨e.2.1, e.1⟩) f1
        obtain ⟨x1, x2⟩ := Prod.mk.inj (Option.some.inj (k2.symm.trans k216))
        have okn := sk_ok_i (P := fun u => u * ax_S (r_G M) (q : Int) u) (b := r_G M (28 * (q : Int) + 5)) (d + 1) z zok
        have stn := sk_st_i (P := fun u => u * ax_S (r_G M) (q : Int) u) (b := r_G M (28 * (q : Int) + 5)) d z
        obtain ⟨ul, ul1, ul2⟩ := sk_l_i (P := fun u => u * ax_S (r_G M) (q : Int) u) (b := r_G M (28 * (q : Int) + 5)) d z zok
        have ul2 : (sk_i (fun u => u * ax_S (r_G M) (q : Int) u) (r_G M (28 * (q : Int) + 5)) (d + 1) z).2.2.2 = ul * ax_S (r_G M) (q : Int) ul := ul2
        have lb := bx_pw (u := ul) (z := ax_S (r_G M) (q : Int) ul) ⟨by omega, by omega⟩ (SB' ul ul1)
        rw [← ul2] at lb
        revert okn stn lb b2 f2 e1 x1
        clear ul2
        generalize sk_i (fun u => u * ax_S (r_G M) (q : Int) u) (r_G M (28 * (q : Int) + 5)) (d + 1) z = y
        intro b2 e1 f2 x1 okn stn lb
        obtain ⟨c0, c1, c2, c3, c4⟩ := b2
        obtain ⟨h27, h28, h30, h29⟩ := f2
        have c4 := c4 stn
        have h29 := h29 stn
        -- memory: Q, B, A, M
        have mQ : ∀ id k, id < 192 → Q id k = M1 id k := fun id k hid => (f3 id k (by omega)).trans ((gq id k (by omega)).trans (g2 id k (by omega) (by omega)))
        have mQ3 : ∀ i : Int, Q 193 i.toNat = r_G M i := fun i => (f3 193 i.toNat (by omega)).trans ((gq 193 i.toNat (by decide)).trans (congrFun eGR i))
        have m2 : ∀ id k, id < 192 → M2 id k = B id k := fun id k hid => by
          rw [x2, c_up_n (by omega), c_up_n (by omega), c_up_n (by omega), c_up_n (by omega), mQ id k hid, e2]
        have mM : ∀ id k, id < 162 → id ≠ 37 + q → M2 id k = M id k := fun id k hid hn => (m2 id k (by omega)).trans ((b3 id k hn).trans (congrFun (afr id hid) k))
        have gx : ∀ x : Int, 0 ≤ x → r_G M2 x = if x = 28 * (q : Int) + 8 then y.2.2.2 else if x = 28 * (q : Int) + 7 then 1 else if x = 28 * (q : Int) + 6 then (if y.2.1 = 0 then 1 else -1) else if x = 28 * (q : Int) + 4 then y.1 else r_G M x := fun x x0 => by
          rw [x2, h27, h28, h29]
          show (e_up (e_up (e_up (e_up Q 193 _ _) 193 _ _) 193 _ _) 193 _ _) 193 x.toNat = _
          by_cases e8 : x = 28 * (q : Int) + 8
          · rw [if_pos e8, show x.toNat = (28 * (q : Int) + 4 + 4).toNat by omega, c_up_s]
          · rw [if_neg e8, c_up_n (by omega)]
            by_cases e7 : x = 28 * (q : Int) + 7
            · rw [if_pos e7, show x.toNat = (28 * (q : Int) + 4 + 3).toNat by omega, c_up_s]
            · rw [if_neg e7, c_up_n (by omega)]
              by_cases e6 : x = 28 * (q : Int) + 6
              · rw [if_pos e6, show x.toNat = (28 * (q : Int) + 4 + 2).toNat by omega, c_up_s]
              · rw [if_neg e6, c_up_n (by omega)]
                by_cases e4 : x = 28 * (q : Int) + 4
                · rw [if_pos e4, show x.toNat = (28 * (q : Int) + 4).toNat by omega, c_up_s]
                · rw [if_neg e4, c_up_n (by omega)]
                  exact mQ3 x
        refine ⟨e1.trans x1.symm, hd_box hD k3' c.2 hB.2.1.2 (fun x x0 hx => by rw [gx x x0, if_neg (by omega), if_neg (by omega), if_neg (by omega), if_neg (by omega)]) (fun id k hid hn => mM id k hid hn) ?_, (m2 _ _ (by decide)).trans ((b3 _ _ (by omega)).trans a171)⟩
        have g4 := gx (28 * (q : Int) + 4) (by omega)
        have g5 := gx (28 * (q : Int) + 5) (by omega)
        have g6 := gx (28 * (q : Int) + 6) (by omega)
        have g7 := gx (28 * (q : Int) + 7) (by omega)
        have g8 := gx (28 * (q : Int) + 8) (by omega)
        rw [if_neg (by omega), if_neg (by omega), if_neg (by omega), if_pos rfl] at g4
        rw [if_neg (by omega), if_neg (by omega), if_neg (by omega), if_neg (by omega)] at g5
        rw [if_neg (by omega), if_neg (by omega), if_pos rfl] at g6
        rw [if_neg (by omega), if_pos rfl] at g7
        rw [if_pos rfl] at g8
        obtain ⟨o1, o2, -⟩ := okn
        refine ⟨⟨?_, ?_, ?_⟩, ⟨?_, ?_, ?_⟩, ?_, Or.inr ⟨?_, g7, ?_, ?_, ?_⟩⟩
        · exact (m2 (37 + q) 0 (by omega)).trans (c0.trans g4.symm)
        · rw [g4]; exact o1.1
        · rw [g4]; exact o1.2
        · exact (m2 (37 + q) 1 (by omega)).trans (c1.trans g5.symm)
        · rw [g5]; exact t1
        · rw [g5]; exact t2
        · have m22 := (m2 (37 + q) 2 (by omega)).trans c2
          rcases o2 with o | o
          · rw [if_pos o] at g6
            exact Or.inl ⟨m22.trans o, g6⟩
          · rw [if_neg (by omega)] at g6
            exact Or.inr ⟨m22.trans o, g6⟩
        · exact (m2 (37 + q) 3 (by omega)).trans (c3.trans stn)
        · exact (m2 (37 + q) 4 (by omega)).trans (c4.trans g8.symm)
        · rw [g8]; exact lb.2.1
        · rw [g8]; exact lb.2.2
      · rw [if_neg k3] at s
        obtain ⟨e1, e2⟩ := Prod.mk.inj (Option.some.inj (k1.symm.trans (ax_115b i b s)))
        have k3' : r_G M1 (28 * (q : Int)) ≠ 3 := by rw [eG, ← q1]; exact k3
        obtain ⟨f1, f2⟩ := Prod.mk.inj (Option.some.inj (k2.symm.trans (ax_216b ip b kk k3')))
        exact ⟨e1.trans f1.symm, keep e2 f2⟩
    · obtain ⟨e1, e2⟩ := Prod.mk.inj (Option.some.inj (k1.symm.trans (ax_115a i (Or.inr ⟨rfl, b⟩))))
      obtain ⟨f1, f2⟩ := Prod.mk.inj (Option.some.inj (k2.symm.trans (ax_216a ip (Or.inr ⟨rfl, b⟩))))
      exact ⟨e1.trans f1.symm, keep e2 f2⟩
  · rw [if_neg c] at i
    have ip := r_ip0 hW (show ¬ (0 ≤ p ∧ p < r_G M1 1198) by rw [eG]; exact c)
    obtain ⟨e1, e2⟩ := Prod.mk.inj (Option.some.inj (k1.symm.trans (ax_115a i (Or.inl rfl))))
    obtain ⟨f1, f2⟩ := Prod.mk.inj (Option.some.inj (k2.symm.trans (ax_216a ip (Or.inl rfl))))
    exact ⟨e1.trans f1.symm, keep e2 f2⟩
end AXP
end
