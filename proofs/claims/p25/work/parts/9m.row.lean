section
/-! a ROW -/
def r_MR (p a : Int) (g0 : Int → Int) (M0 : EM) (o : EO) : Prop := ∃ r M', o = some (r, M') ∧ r_mk p 1 g0 M0 M' ∧ a < M' 192 15 ∧ M' 192 15 ≤ 130 ∧ (r = 0 ∨ r = 1) ∧ (r = 1 → r_rw (r_G M') (p + 1) p)
/-- n members so far -/
def r_RI (p : Int) (g0 : Int → Int) (M0 : EM) (n x4 : Int) (N : EM) : Prop := r_mk p 1 g0 M0 N ∧ (0 ≤ n ∧ n ≤ 8) ∧ (x4 = 0 ∨ x4 = 1) ∧ (x4 = 1 → ∀ k, 0 ≤ k → k < n → r_cl g0 p (r_G N (28 * p + 3 + k)))
/-- what goes on from a ROW's next ITEM -/
def r_RH (p a : Int) (g0 : Int → Int) (M0 : EM) : Prop := ∀ N n gr x4 x5 x6 x7, r_RI p g0 M0 n x4 N → a < N 192 15 → N 192 15 < M0 192 17 → (0 ≤ gr ∧ gr ≤ N 192 15) → (x4 = 1 → gr ≤ n) → r_MR p a g0 M0 (E_V 186 7 [192, p, n, gr, x4, x5, x6, x7] N)
section RROW
variable {p a : Int} {g0 : Int → Int} {M0 : EM}
theorem r_RI_w {n x4 i v : Int} {N : EM} (h : r_RI p g0 M0 n x4 N) (hp : 0 ≤ p) (hi : 28 * p + 11 ≤ i ∧ i < 28 * p + 28 ∨ i = 28 * p + 2) (hv : -2147483648 ≤ v ∧ v ≤ 2147483647) : r_RI p g0 M0 n x4 (e_up N 193 i.toNat v) := by
  obtain ⟨a1, a2, a3, a4⟩ := h
  refine ⟨r_mk_w a1 hp (by omega) (fun e => absurd e (by decide)) (fun e => absurd e (by decide)) hv, a2, a3, fun h k k0 k1 => ?_⟩
  rw [r_G_n (by omega) (by omega)]
  exact a4 h k k0 k1
theorem r_RI_p {n x4 v : Int} {N : EM} (h : r_RI p g0 M0 n x4 N) (hv : -2147483648 ≤ v ∧ v ≤ 2147483647) : r_RI p g0 M0 n x4 (e_up N 192 15 v) := by
  obtain ⟨a1, a2, a3, a4⟩ := h
  refine ⟨r_mk_p a1 hv, a2, a3, ?_⟩
  rw [r_up_Gne (by decide)]
  exact a4
theorem r_RI_t {n x4 : Int} {N N' : EM} (h : r_RI p g0 M0 n x4 N) (t : r_tt N N') : r_RI p g0 M0 n x4 N' := by
  obtain ⟨a1, a2, a3, a4⟩ := h
  have eG : r_G N' = r_G N := funext fun i => t.2.1 _ _ (by omega)
  exact ⟨r_mk_t a1 t, a2, a3, by rw [eG]; exact a4⟩
theorem r_mr_195 {n gr x4 x5 x6 x7 : Int} {N : EM} (hp : 0 ≤ p ∧ p < 40) (hb : r_bl M0) (hH : r_RH p a g0 M0) (h : r_RI p g0 M0 n x4 N) (hq : a < N 192 15 ∧ 0 ≤ N 192 15 ∧ N 192 15 ≤ 125) (hg : 0 ≤ gr ∧ gr + 1 ≤ N 192 15) (hgn : x4 = 1 → gr + 1 ≤ n) : r_MR p a g0 M0 (E_V 186 195 [192, p, n, gr, x4, x5, x6, x7] N) := by
  have TN := r_mk_ty h.1 hb ⟨by omega, by omega⟩
  have ks := r_sign TN
  have w1 : e_w (gr + 1) = gr + 1 := a_w_id (by omega) (by omega)
  by_cases c : r_sg N = 32
  · have hl := r_sg_lt c (by decide)
    have eN := r_mk_17 h.1
    obtain ⟨r, M', k, z⟩ := hH N n (gr + 1) x4 x5 x6 x7 h hq.1 (by omega) ⟨by omega, hg.2⟩ hgn
    refine ⟨r, M', ?_, z⟩
    rw [E_V_eq]
    show e_tv E_C (E_V 186) e_t186_195 [192, p, n, gr, x4, x5, x6, x7] N = _
    unfold e_t186_195
    simp [zq_a, zq_b, zq_c, zq_d, zq_e, zq_f, zq_g, zq_h, zq_i, zq_j, zq_k, zq_l, zq_m, zq_n, zq_o, zq_p, zq_q, zq_r, zq_s, zq_t, zq_u, zq_v, zq_w, zq_x, zq_y, zq_z, zq_A, zq_B, zq_C, zq_D, zq_E, zq_F, zq_G, zq_H, zq_I, zq_J, zq_K, zq_L, ↓zq_M, ↓zq_N, ↓zq_O, ↓zq_P, ↓zq_Q, ↓zq_R, zq_S, zq_T, zq_U, zq_V, zq_W, zq_X, zq_Y, zq_Z, zq_0, zq_1, zq_2, zq_3, zq_4, zq_5, ↓zq_6, ↓zq_7, ↓zq_8, ↓zq_9, ↓zq_aa, zq_ab, zq_ac, zq_ad, zq_ae, zq_af, zq_ag, ↓zq_ah, ↓zq_ai, ↓zq_aj, zq_ak, ↓zq_al, ↓zq_am, e_b1, e_b2, x_o1, x_o2, w1, ks, c, k]
  · obtain ⟨h1, h2, h3, h4⟩ := h
    have v1 : e_w (28 * p) = 28 * p := a_w_id (by omega) (by omega)
    have v2 : e_w (28 * p + 2) = 28 * p + 2 := a_w_id (by omega) (by omega)
    have v3 : e_w (28 * p + 19) = 28 * p + 19 := a_w_id (by omega) (by omega)
    obtain ⟨z, hz⟩ : ∃ z : Int, z = if gr + 1 < 8 then gr + 1 else 8 := ⟨_, rfl⟩
    have hzr : 0 ≤ z ∧ z ≤ 8 := by
      rcases x_lt (gr + 1) 8 with ⟨e, e_n⟩ | ⟨e, e_n⟩
      · rw [if_pos e] at hz; omega
      · rw [if_neg e] at hz; omega
    have kl : ∀ M, E_C 174 [gr + 1, 8] M = some (z, M) := fun M => by rw [r_lesser, hz]
    have s1 := r_stw (i := 28 * p + 2) (v := n) (M := N) (by omega) (by omega)
    have s2 := fun M => r_stw (i := 28 * p + 19) (v := z) (M := M) (by omega) (by omega)
    have g1 := r_mk_w (i := 28 * p + 2) (v := n) h1 hp.1 (by omega) (fun e => absurd e (by decide)) (fun e => absurd e (by decide)) ⟨by omega, by omega⟩
    have g2 := r_mk_w (i := 28 * p + 19) (v := z) g1 hp.1 (by omega) (fun e => absurd e (by decide)) (fun e => absurd e (by decide)) ⟨by omega, by omega⟩
    have o2 : r_G (e_up (e_up N 193 (28 * p + 2).toNat n) 193 (28 * p + 19).toNat z) (28 * p + 2) = n := (r_G_n (by omega) (by omega)).trans r_G_s
    have o19 : r_G (e_up (e_up N 193 (28 * p + 2).toNat n) 193 (28 * p + 19).toNat z) (28 * p + 19) = z := r_G_s
    refine ⟨x4, _, ?_, g2, ?_, ?_, h3, fun h5 => ⟨hp.1, by omega, g2.2.2.2.2.1, by rw [o2]; exact h2.1, by rw [o2]; exact h2.2, by rw [o19]; exact hzr.1, by rw [o19]; exact hzr.2, fun k k0 k1 => ?_⟩⟩
    · rw [E_V_eq]
      show e_tv E_C (E_V 186) e_t186_195 [192, p, n, gr, x4, x5, x6, x7] N = _
      unfold e_t186_195
      simp [zq_a, zq_b, zq_c, zq_d, zq_e, zq_f, zq_g, zq_h, zq_i, zq_j, zq_k, zq_l, zq_m, zq_n, zq_o, zq_p, zq_q, zq_r, zq_s, zq_t, zq_u, zq_v, zq_w, zq_x, zq_y, zq_z, zq_A, zq_B, zq_C, zq_D, zq_E, zq_F, zq_G, zq_H, zq_I, zq_J, zq_K, zq_L, ↓zq_M, ↓zq_N, ↓zq_O, ↓zq_P, ↓zq_Q, ↓zq_R, zq_S, zq_T, zq_U, zq_V, zq_W, zq_X, zq_Y, zq_Z, zq_0, zq_1, zq_2, zq_3, zq_4, zq_5, ↓zq_6, ↓zq_7, ↓zq_8, ↓zq_9, ↓zq_aa, zq_ab, zq_ac, zq_ad, zq_ae, zq_af, zq_ag, ↓zq_ah, ↓zq_ai, ↓zq_aj, zq_ak, ↓zq_al, ↓zq_am, e_b1, e_b2, x_o1, x_o2, r_O0, w1, ks, c, v1, v2, v3, s1, kl, s2]
    · rw [r_n192, r_n192]; exact hq.1
    · rw [r_n192, r_n192]; omega
    · rw [o2] at k1
      rw [show r_G (e_up (e_up N 193 (28 * p + 2).toNat n) 193 (28 * p + 19).toNat z) (28 * p + 3 + k) = r_G N (28 * p + 3 + k) from (r_G_n (by omega) (by omega)).trans (r_G_n (by omega) (by omega))]
      exact r_mk_cl g2 (h4 h5 k k0 k1)
theorem r_mr_166 {n gr x4 x5 x6 x7 : Int} {N : EM} (hp : 0 ≤ p ∧ p < 40) (hb : r_bl M0) (hH : r_RH p a g0 M0) (h : r_RI p g0 M0 n x4 N) (hx5 : x5 = 0 ∨ x5 = 1) (hq : a < N 192 15 ∧ 0 ≤ N 192 15 ∧ N 192 15 ≤ 125) (hg : 0 ≤ gr ∧ gr + 1 ≤ N 192 15) (hgn : x4 = 1 → gr + 1 ≤ n) : r_MR p a g0 M0 (E_V 186 166 [192, p, n, gr, x4, x5, x6, x7] N) := by
  have h' := h
  obtain ⟨h1, h2, h3, h4⟩ := h'
  rcases h3 with h3 | h3
  · obtain ⟨r, M', k, z⟩ := r_mr_195 (x5 := x5) (x6 := x6) (x7 := x7) hp hb hH h hq hg hgn
    refine ⟨r, M', ?_, z⟩
    rw [E_V_eq]
    show e_tv E_C (E_V 186) e_t186_166 [192, p, n, gr, x4, x5, x6, x7] N = _
    unfold e_t186_166
    subst h3
    simp [zq_a, zq_b, zq_c, zq_d, zq_e, zq_f, zq_g, zq_h, zq_i, zq_j, zq_k, zq_l, zq_m, zq_n, zq_o, zq_p, zq_q, zq_r, zq_s, zq_t, zq_u, zq_v, zq_w, zq_x, zq_y, zq_z, zq_A, zq_B, zq_C, zq_D, zq_E, zq_F, zq_G, zq_H, zq_I, zq_J, zq_K, zq_L, ↓zq_M, ↓zq_N, ↓zq_O, ↓zq_P, ↓zq_Q, ↓zq_R, zq_S, zq_T, zq_U, zq_V, zq_W, zq_X, zq_Y, zq_Z, zq_0, zq_1, zq_2, zq_3, zq_4, zq_5, ↓zq_6, ↓zq_7, ↓zq_8, ↓zq_9, ↓zq_aa, zq_ab, zq_ac, zq_ad, zq_ae, zq_af, zq_ag, ↓zq_ah, ↓zq_ai, ↓zq_aj, zq_ak, ↓zq_al, ↓zq_am, e_b1, e_b2, x_o1, x_o2, k]
  · have hgn' := hgn h3
    have v1 : e_w (28 * p) = 28 * p := a_w_id (by omega) (by omega)
    have v2 : e_w (28 * p + 20) = 28 * p + 20 := a_w_id (by omega) (by omega)
    have v3 : e_w (28 * p + 20 + gr) = 28 * p + 20 + gr := a_w_id (by omega) (by omega)
    have s1 := fun v => r_stw (i := 28 * p + 20 + gr) (v := v) (M := N) (by omega) (by omega)
    have hgo : ∀ v : Int, (v = 0 ∨ v = 1) → r_MR p a g0 M0 (E_V 186 195 [192, p, n, gr, x4, x5, x6, x7] (e_up N 193 (28 * p + 20 + gr).toNat v)) := fun v hv => r_mr_195 hp hb hH (r_RI_w h hp.1 (Or.inl ⟨by omega, by omega⟩) ⟨by omega, by omega⟩) (by rw [r_n192]; exact hq) (by rw [r_n192]; exact hg) hgn
    rcases hx5 with hx | hx
    · obtain ⟨r, M', k, z⟩ := hgo 0 (Or.inl rfl)
      refine ⟨r, M', ?_, z⟩
      subst hx
      subst h3
      rw [E_V_eq]
      show e_tv E_C (E_V 186) e_t186_166 [192, p, n, gr, 1, 0, x6, x7] N = _
      unfold e_t186_166
      simp [zq_a, zq_b, zq_c, zq_d, zq_e, zq_f, zq_g, zq_h, zq_i, zq_j, zq_k, zq_l, zq_m, zq_n, zq_o, zq_p, zq_q, zq_r, zq_s, zq_t, zq_u, zq_v, zq_w, zq_x, zq_y, zq_z, zq_A, zq_B, zq_C, zq_D, zq_E, zq_F, zq_G, zq_H, zq_I, zq_J, zq_K, zq_L, ↓zq_M, ↓zq_N, ↓zq_O, ↓zq_P, ↓zq_Q, ↓zq_R, zq_S, zq_T, zq_U, zq_V, zq_W, zq_X, zq_Y, zq_Z, zq_0, zq_1, zq_2, zq_3, zq_4, zq_5, ↓zq_6, ↓zq_7, ↓zq_8, ↓zq_9, ↓zq_aa, zq_ab, zq_ac, zq_ad, zq_ae, zq_af, zq_ag, ↓zq_ah, ↓zq_ai, ↓zq_aj, zq_ak, ↓zq_al, ↓zq_am, e_b1, e_b2, x_o1, x_o2, r_O0, v1, v2, v3, s1, k]
    · obtain ⟨r, M', k, z⟩ := hgo 1 (Or.inr rfl)
      refine ⟨r, M', ?_, z⟩
      subst hx
      subst h3
      rw [E_V_eq]
      show e_tv E_C (E_V 186) e_t186_166 [192, p, n, gr, 1, 1, x6, x7] N = _
      unfold e_t186_166
      simp [zq_a, zq_b, zq_c, zq_d, zq_e, zq_f, zq_g, zq_h, zq_i, zq_j, zq_k, zq_l, zq_m, zq_n, zq_o, zq_p, zq_q, zq_r, zq_s, zq_t, zq_u, zq_v, zq_w, zq_x, zq_y, zq_z, zq_A, zq_B, zq_C, zq_D, zq_E, zq_F, zq_G, zq_H, zq_I, zq_J, zq_K, zq_L, ↓zq_M, ↓zq_N, ↓zq_O, ↓zq_P, ↓zq_Q, ↓zq_R, zq_S, zq_T, zq_U, zq_V, zq_W, zq_X, zq_Y, zq_Z, zq_0, zq_1, zq_2, zq_3, zq_4, zq_5, ↓zq_6, ↓zq_7, ↓zq_8, ↓zq_9, ↓zq_aa, zq_ab, zq_ac, zq_ad, zq_ae, zq_af, zq_ag, ↓zq_ah, ↓zq_ai, ↓zq_aj, zq_ak, ↓zq_al, ↓zq_am, e_b1, e_b2, x_o1, x_o2, r_O0, v1, v2, v3, s1, k]
theorem r_mr_out {n gr x4 x5 x7 : Int} {N : EM} (hp : 0 ≤ p ∧ p < 40) (hb : r_bl M0) (hH : r_RH p a g0 M0) (h : r_RI p g0 M0 n x4 N) (hx5 : x5 = 0 ∨ x5 = 1) (hq : a < N 192 15 ∧ 0 ≤ N 192 15 ∧ N 192 15 ≤ 124) (hg : 0 ≤ gr ∧ gr + 1 ≤ N 192 15) (hgn : x4 = 1 → gr + 1 ≤ n) : r_MR p a g0 M0 (E_V 186 28 [192, p, n, gr, x4, x5, 0, x7] N) := by
  rcases hx5 with hx | hx
  · obtain ⟨r, M', k, z⟩ := r_mr_166 (x5 := x5) (x6 := 0) (x7 := x7) hp hb hH h (Or.inl hx) ⟨hq.1, hq.2.1, by omega⟩ hg hgn
    refine ⟨r, M', ?_, z⟩
    subst hx
    rw [E_V_eq]
    show e_tv E_C (E_V 186) e_t186_28 [192, p, n, gr, x4, 0, 0, x7] N = _
    unfold e_t186_28
    simp [zq_a, zq_b, zq_c, zq_d, zq_e, zq_f, zq_g, zq_h, zq_i, zq_j, zq_k, zq_l, zq_m, zq_n, zq_o, zq_p, zq_q, zq_r, zq_s, zq_t, zq_u, zq_v, zq_w, zq_x, zq_y, zq_z, zq_A, zq_B, zq_C, zq_D, zq_E, zq_F, zq_G, zq_H, zq_I, zq_J, zq_K, zq_L, ↓zq_M, ↓zq_N, ↓zq_O, ↓zq_P, ↓zq_Q, ↓zq_R, zq_S, zq_T, zq_U, zq_V, zq_W, zq_X, zq_Y, zq_Z, zq_0, zq_1, zq_2, zq_3, zq_4, zq_5, ↓zq_6, ↓zq_7, ↓zq_8, ↓zq_9, ↓zq_aa, zq_ab, zq_ac, zq_ad, zq_ae, zq_af, zq_ag, ↓zq_ah, ↓zq_ai, ↓zq_aj, zq_ak, ↓zq_al, ↓zq_am, e_b1, e_b2, x_o1, x_o2, k]
  · have w1 : e_w (N 192 15 + 1) = N 192 15 + 1 := a_w_id (by omega) (by omega)
    have q1 : (e_up N 192 15 (N 192 15 + 1)) 192 15 = N 192 15 + 1 := c_up_s
    obtain ⟨r, M', k, z⟩ := r_mr_166 (x5 := x5) (x6 := 0) (x7 := x7) hp hb hH (r_RI_p (v := N 192 15 + 1) h ⟨by omega, by omega⟩) (Or.inr hx) (by rw [q1]; omega) (by rw [q1]; omega) hgn
    refine ⟨r, M', ?_, z⟩
    subst hx
    rw [E_V_eq]
    show e_tv E_C (E_V 186) e_t186_28 [192, p, n, gr, x4, 1, 0, x7] N = _
    unfold e_t186_28
    simp [zq_a, zq_b, zq_c, zq_d, zq_e, zq_f, zq_g, zq_h, zq_i, zq_j, zq_k, zq_l, zq_m, zq_n, zq_o, zq_p, zq_q, zq_r, zq_s, zq_t, zq_u, zq_v, zq_w, zq_x, zq_y, zq_z, zq_A, zq_B, zq_C, zq_D, zq_E, zq_F, zq_G, zq_H, zq_I, zq_J, zq_K, zq_L, ↓zq_M, ↓zq_N, ↓zq_O, ↓zq_P, ↓zq_Q, ↓zq_R, zq_S, zq_T, zq_U, zq_V, zq_W, zq_X, zq_Y, zq_Z, zq_0, zq_1, zq_2, zq_3, zq_4, zq_5, ↓zq_6, ↓zq_7, ↓zq_8, ↓zq_9, ↓zq_aa, zq_ab, zq_ac, zq_ad, zq_ae, zq_af, zq_ag, ↓zq_ah, ↓zq_ai, ↓zq_aj, zq_ak, ↓zq_al, ↓zq_am, e_b1, e_b2, x_o1, x_o2, r_F15, r_P15, w1, k]
theorem r_mr_step {n gr x4 x5 x7 : Int} {N : EM} (hp : 0 ≤ p ∧ p < 40) (hW : r_W g0) (hpc : g0 1198 = p) (hb : r_bl M0) (hH : r_RH p a g0 M0) (h : r_RI p g0 M0 n x4 N) (hx5 : x5 = 0 ∨ x5 = 1) (hq : a < N 192 15 ∧ 0 ≤ N 192 15 ∧ N 192 15 ≤ 122) (hg : 0 ≤ gr ∧ gr + 1 ≤ N 192 15) (hgn : x4 = 1 → gr ≤ n) (H : ∀ N1 n x4 x7, r_RI p g0 M0 n x4 N1 → N 192 15 < N1 192 15 → N1 192 15 ≤ M0 192 17 → (x4 = 1 → gr ≤ n) → r_MR p a g0 M0 (E_V 186 28 [192, p, n, gr, x4, x5, 1, x7] N1)) : r_MR p a g0 M0 (E_V 186 28 [192, p, n, gr, x4, x5, 1, x7] N) := by
  have hb' := hb
  obtain ⟨b1, b2, b3⟩ := hb'
  have TN := r_mk_ty h.1 hb ⟨by omega, by omega⟩
  have e17 := r_mk_17 h.1
  obtain ⟨r2, M2, k2, t2, -, -⟩ := r_rNum TN
  have h2 := r_RI_t h t2
  have l2 := t2.2.2.1
  have u2 := t2.2.2.2.1
  have hq2 : N 192 15 ≤ M2 192 15 ∧ M2 192 15 ≤ 122 := by omega
  obtain ⟨n0, n99⟩ := h2.1.2.2.2.2.2.2.2
  -- behind a number
  have tail : ∀ N1 y2 y4, r_RI p g0 M0 y2 y4 N1 → N1 192 15 = M2 192 15 → (y4 = 1 → gr + 1 ≤ y2) → r_MR p a g0 M0 (E_V 186 127 [192, p, y2, gr, y4, x5, 1, r2] N1) := by
    intro N1 y2 y4 hR h15 hgy
    have T1 := r_mk_ty hR.1 hb ⟨by omega, by omega⟩
    rcases hx5 with hx | hx
    · obtain ⟨r, M', k, z⟩ := r_mr_out (x5 := x5) (x7 := r2) hp hb hH hR (Or.inl hx) (by omega) (by omega) hgy
      refine ⟨r, M', ?_, z⟩
      subst hx
      rw [E_V_eq]
      show e_tv E_C (E_V 186) e_t186_127 [192, p, y2, gr, y4, 0, 1, r2] N1 = _
      unfold e_t186_127
      simp [zq_a, zq_b, zq_c, zq_d, zq_e, zq_f, zq_g, zq_h, zq_i, zq_j, zq_k, zq_l, zq_m, zq_n, zq_o, zq_p, zq_q, zq_r, zq_s, zq_t, zq_u, zq_v, zq_w, zq_x, zq_y, zq_z, zq_A, zq_B, zq_C, zq_D, zq_E, zq_F, zq_G, zq_H, zq_I, zq_J, zq_K, zq_L, ↓zq_M, ↓zq_N, ↓zq_O, ↓zq_P, ↓zq_Q, ↓zq_R, zq_S, zq_T, zq_U, zq_V, zq_W, zq_X, zq_Y, zq_Z, zq_0, zq_1, zq_2, zq_3, zq_4, zq_5, ↓zq_6, ↓zq_7, ↓zq_8, ↓zq_9, ↓zq_aa, zq_ab, zq_ac, zq_ad, zq_ae, zq_af, zq_ag, ↓zq_ah, ↓zq_ai, ↓zq_aj, zq_ak, ↓zq_al, ↓zq_am, e_b1, e_b2, x_o1, x_o2, k]
    · obtain ⟨s, M3, k3, t3, h3, g3⟩ := r_takesT (c := 32) T1 (by decide)
      have hR3 := r_RI_t hR t3
      have l3 := t3.2.2.1
      have u3 := t3.2.2.2.1
      have e18 := r_mk_17 hR.1
      rcases h3 with h3 | h3
      · obtain ⟨r, M', k, z⟩ := r_mr_out (x5 := x5) (x7 := r2) hp hb hH hR3 (Or.inr hx) (by omega) (by omega) hgy
        refine ⟨r, M', ?_, z⟩
        subst hx
        subst h3
        rw [E_V_eq]
        show e_tv E_C (E_V 186) e_t186_127 [192, p, y2, gr, y4, 1, 1, r2] N1 = _
        unfold e_t186_127
        simp [zq_a, zq_b, zq_c, zq_d, zq_e, zq_f, zq_g, zq_h, zq_i, zq_j, zq_k, zq_l, zq_m, zq_n, zq_o, zq_p, zq_q, zq_r, zq_s, zq_t, zq_u, zq_v, zq_w, zq_x, zq_y, zq_z, zq_A, zq_B, zq_C, zq_D, zq_E, zq_F, zq_G, zq_H, zq_I, zq_J, zq_K, zq_L, ↓zq_M, ↓zq_N, ↓zq_O, ↓zq_P, ↓zq_Q, ↓zq_R, zq_S, zq_T, zq_U, zq_V, zq_W, zq_X, zq_Y, zq_Z, zq_0, zq_1, zq_2, zq_3, zq_4, zq_5, ↓zq_6, ↓zq_7, ↓zq_8, ↓zq_9, ↓zq_aa, zq_ab, zq_ac, zq_ad, zq_ae, zq_af, zq_ag, ↓zq_ah, ↓zq_ai, ↓zq_aj, zq_ak, ↓zq_al, ↓zq_am, e_b1, e_b2, x_o1, x_o2, k3, k]
      · have g4 := g3 h3
        obtain ⟨r, M', k, z⟩ := H M3 y2 y4 r2 hR3 (by omega) (by omega) (fun e => by have := hgy e; omega)
        refine ⟨r, M', ?_, z⟩
        subst hx
        subst h3
        rw [E_V_eq]
        show e_tv E_C (E_V 186) e_t186_127 [192, p, y2, gr, y4, 1, 1, r2] N1 = _
        unfold e_t186_127
        simp [zq_a, zq_b, zq_c, zq_d, zq_e, zq_f, zq_g, zq_h, zq_i, zq_j, zq_k, zq_l, zq_m, zq_n, zq_o, zq_p, zq_q, zq_r, zq_s, zq_t, zq_u, zq_v, zq_w, zq_x, zq_y, zq_z, zq_A, zq_B, zq_C, zq_D, zq_E, zq_F, zq_G, zq_H, zq_I, zq_J, zq_K, zq_L, ↓zq_M, ↓zq_N, ↓zq_O, ↓zq_P, ↓zq_Q, ↓zq_R, zq_S, zq_T, zq_U, zq_V, zq_W, zq_X, zq_Y, zq_Z, zq_0, zq_1, zq_2, zq_3, zq_4, zq_5, ↓zq_6, ↓zq_7, ↓zq_8, ↓zq_9, ↓zq_aa, zq_ab, zq_ac, zq_ad, zq_ae, zq_af, zq_ag, ↓zq_ah, ↓zq_ai, ↓zq_aj, zq_ak, ↓zq_al, ↓zq_am, e_b1, e_b2, x_o1, x_o2, k3, k]
  have h3 := h2
  obtain ⟨a1, a2, a3, a4⟩ := h3
  rcases a3 with c0 | c0
  · obtain ⟨r, M', k, z⟩ := tail M2 n 0 ⟨a1, a2, Or.inl rfl, fun e => absurd e (by decide)⟩ rfl (fun e => absurd e (by decide))
    refine ⟨r, M', ?_, z⟩
    subst c0
    rw [E_V_eq]
    show e_tv E_C (E_V 186) e_t186_28 [192, p, n, gr, 0, x5, 1, x7] N = _
    unfold e_t186_28
    simp [zq_a, zq_b, zq_c, zq_d, zq_e, zq_f, zq_g, zq_h, zq_i, zq_j, zq_k, zq_l, zq_m, zq_n, zq_o, zq_p, zq_q, zq_r, zq_s, zq_t, zq_u, zq_v, zq_w, zq_x, zq_y, zq_z, zq_A, zq_B, zq_C, zq_D, zq_E, zq_F, zq_G, zq_H, zq_I, zq_J, zq_K, zq_L, ↓zq_M, ↓zq_N, ↓zq_O, ↓zq_P, ↓zq_Q, ↓zq_R, zq_S, zq_T, zq_U, zq_V, zq_W, zq_X, zq_Y, zq_Z, zq_0, zq_1, zq_2, zq_3, zq_4, zq_5, ↓zq_6, ↓zq_7, ↓zq_8, ↓zq_9, ↓zq_aa, zq_ab, zq_ac, zq_ad, zq_ae, zq_af, zq_ag, ↓zq_ah, ↓zq_ai, ↓zq_aj, zq_ak, ↓zq_al, ↓zq_am, e_b1, e_b2, x_o1, x_o2, r_F18, k2, k]
  · rcases x_lt n 8 with ⟨c1, c1_n⟩ | ⟨c1, c1_n⟩
    · obtain ⟨s, ks, hs, hs1⟩ := r_mayCome (ks := 1) (M := M2) n0 (p := p) (by omega)
      rcases hs with hs | hs
      · subst hs
        obtain ⟨r, M', k, z⟩ := tail M2 n 0 ⟨a1, a2, Or.inl rfl, fun e => absurd e (by decide)⟩ rfl (fun e => absurd e (by decide))
        refine ⟨r, M', ?_, z⟩
        subst c0
        rw [E_V_eq]
        show e_tv E_C (E_V 186) e_t186_28 [192, p, n, gr, 1, x5, 1, x7] N = _
        unfold e_t186_28
        simp [zq_a, zq_b, zq_c, zq_d, zq_e, zq_f, zq_g, zq_h, zq_i, zq_j, zq_k, zq_l, zq_m, zq_n, zq_o, zq_p, zq_q, zq_r, zq_s, zq_t, zq_u, zq_v, zq_w, zq_x, zq_y, zq_z, zq_A, zq_B, zq_C, zq_D, zq_E, zq_F, zq_G, zq_H, zq_I, zq_J, zq_K, zq_L, ↓zq_M, ↓zq_N, ↓zq_O, ↓zq_P, ↓zq_Q, ↓zq_R, zq_S, zq_T, zq_U, zq_V, zq_W, zq_X, zq_Y, zq_Z, zq_0, zq_1, zq_2, zq_3, zq_4, zq_5, ↓zq_6, ↓zq_7, ↓zq_8, ↓zq_9, ↓zq_aa, zq_ab, zq_ac, zq_ad, zq_ae, zq_af, zq_ag, ↓zq_ah, ↓zq_ai, ↓zq_aj, zq_ak, ↓zq_al, ↓zq_am, e_b1, e_b2, x_o1, x_o2, r_F18, k2, c1, c1_n, ks, k]
      · subst hs
        obtain ⟨hq0, hbit⟩ := hs1 rfl
        have hK := r_W_kind hW (q := M2 192 18) ⟨n0, by rw [hpc]; exact hq0⟩
        rw [hpc] at hK
        obtain ⟨K0, K1, -, -⟩ := hK
        have eK : r_G M2 (28 * M2 192 18) = g0 (28 * M2 192 18) := a1.2.2.1 _ (by omega) (by omega) (by omega)
        rw [eK] at hbit
        have hmemq : r_cl g0 p (M2 192 18) := K1 ((r_bits K0).1 hbit)
        have v1 : e_w (28 * p) = 28 * p := a_w_id (by omega) (by omega)
        have v2 : e_w (28 * p + 3) = 28 * p + 3 := a_w_id (by omega) (by omega)
        have v3 : e_w (28 * p + 3 + n) = 28 * p + 3 + n := a_w_id (by omega) (by omega)
        have v4 : e_w (28 * M2 192 18) = 28 * M2 192 18 := a_w_id (by omega) (by omega)
        have v5 : e_w (28 * M2 192 18 + 1) = 28 * M2 192 18 + 1 := a_w_id (by omega) (by omega)
        have v6 : e_w (n + 1) = n + 1 := a_w_id (by omega) (by omega)
        have v7 : e_w (p + 1) = p + 1 := a_w_id (by omega) (by omega)
        have v8 : e_w (28 * p + 11) = 28 * p + 11 := a_w_id (by omega) (by omega)
        have v9 : e_w (28 * p + 11 + n) = 28 * p + 11 + n := a_w_id (by omega) (by omega)
        have s1 := fun v => r_stw (i := 28 * p + 3 + n) (v := v) (M := M2) (by omega) (by omega)
        have s2 := fun v M => r_stw (i := 28 * p + 11 + n) (v := v) (M := M) (by omega) (by omega)
        have s3 := fun v M => r_stw (i := 28 * M2 192 18 + 1) (v := v) (M := M) (by omega) (by omega)
        have hgn' := hgn c0
        have h5 := r_mk_w (i := 28 * p + 3 + n) (v := M2 192 18) a1 hp.1 (by omega) (fun e => absurd e (by decide)) (fun e => absurd e (by decide)) ⟨by omega, by omega⟩
        have h6 := r_mk_w (i := 28 * p + 11 + n) (v := gr) h5 hp.1 (by omega) (fun e => absurd e (by decide)) (fun e => absurd e (by decide)) ⟨by omega, by omega⟩
        have h7 := r_mk_o (q := M2 192 18) (v := p + 1) h6 ⟨n0, hq0⟩ ⟨by omega, by omega⟩
        obtain ⟨r, M', k, z⟩ := tail _ (n + 1) 1 ⟨h7, ⟨by omega, by omega⟩, Or.inr rfl, fun _ k k0 k1 => by
          rw [r_G_n (by omega) (by omega), r_G_n (by omega) (by omega)]
          by_cases hkn : k = n
          · subst hkn
            rw [r_G_s]
            exact hmemq
          · rw [r_G_n (by omega) (by omega)]
            exact a4 c0 k k0 (by omega)⟩ (r_n192.trans (r_n192.trans r_n192)) (fun _ => by omega)
        refine ⟨r, M', ?_, z⟩
        subst c0
        rw [E_V_eq]
        show e_tv E_C (E_V 186) e_t186_28 [192, p, n, gr, 1, x5, 1, x7] N = _
        unfold e_t186_28
        simp [zq_a, zq_b, zq_c, zq_d, zq_e, zq_f, zq_g, zq_h, zq_i, zq_j, zq_k, zq_l, zq_m, zq_n, zq_o, zq_p, zq_q, zq_r, zq_s, zq_t, zq_u, zq_v, zq_w, zq_x, zq_y, zq_z, zq_A, zq_B, zq_C, zq_D, zq_E, zq_F, zq_G, zq_H, zq_I, zq_J, zq_K, zq_L, ↓zq_M, ↓zq_N, ↓zq_O, ↓zq_P, ↓zq_Q, ↓zq_R, zq_S, zq_T, zq_U, zq_V, zq_W, zq_X, zq_Y, zq_Z, zq_0, zq_1, zq_2, zq_3, zq_4, zq_5, ↓zq_6, ↓zq_7, ↓zq_8, ↓zq_9, ↓zq_aa, zq_ab, zq_ac, zq_ad, zq_ae, zq_af, zq_ag, ↓zq_ah, ↓zq_ai, ↓zq_aj, zq_ak, ↓zq_al, ↓zq_am, e_b1, e_b2, x_o1, x_o2, r_O0, r_F18, r_n192, k2, c1, c1_n, ks, v1, v2, v3, v4, v5, v6, v7, v8, v9, s1, s2, s3, k]
    · obtain ⟨r, M', k, z⟩ := tail M2 n 0 ⟨a1, a2, Or.inl rfl, fun e => absurd e (by decide)⟩ rfl (fun e => absurd e (by decide))
      refine ⟨r, M', ?_, z⟩
      subst c0
      rw [E_V_eq]
      show e_tv E_C (E_V 186) e_t186_28 [192, p, n, gr, 1, x5, 1, x7] N = _
      unfold e_t186_28
      simp [zq_a, zq_b, zq_c, zq_d, zq_e, zq_f, zq_g, zq_h, zq_i, zq_j, zq_k, zq_l, zq_m, zq_n, zq_o, zq_p, zq_q, zq_r, zq_s, zq_t, zq_u, zq_v, zq_w, zq_x, zq_y, zq_z, zq_A, zq_B, zq_C, zq_D, zq_E, zq_F, zq_G, zq_H, zq_I, zq_J, zq_K, zq_L, ↓zq_M, ↓zq_N, ↓zq_O, ↓zq_P, ↓zq_Q, ↓zq_R, zq_S, zq_T, zq_U, zq_V, zq_W, zq_X, zq_Y, zq_Z, zq_0, zq_1, zq_2, zq_3, zq_4, zq_5, ↓zq_6, ↓zq_7, ↓zq_8, ↓zq_9, ↓zq_aa, zq_ab, zq_ac, zq_ad, zq_ae, zq_af, zq_ag, ↓zq_ah, ↓zq_ai, ↓zq_aj, zq_ak, ↓zq_al, ↓zq_am, e_b1, e_b2, x_o1, x_o2, r_F18, k2, c1, c1_n, k]
theorem r_mr_in {gr x5 : Int} (hp : 0 ≤ p ∧ p < 40) (hW : r_W g0) (hpc : g0 1198 = p) (hb : r_bl M0) (hH : r_RH p a g0 M0) (hx5 : x5 = 0 ∨ x5 = 1) (hg0 : 0 ≤ gr) : ∀ (m : Nat) (n x4 x7 : Int) (N : EM), r_RI p g0 M0 n x4 N → (M0 192 17 - N 192 15).toNat ≤ m → (a < N 192 15 ∧ 0 ≤ N 192 15 ∧ N 192 15 ≤ 122) → gr + 1 ≤ N 192 15 → (x4 = 1 → gr ≤ n) → r_MR p a g0 M0 (E_V 186 28 [192, p, n, gr, x4, x5, 1, x7] N) := by
  have hb3 := hb.2.2
  intro m
  induction m with
  | zero =>
    intro n x4 x7 N h hm hq hg hgn
    exact r_mr_step hp hW hpc hb hH h hx5 hq ⟨hg0, hg⟩ hgn (fun N1 n x4 x7 h1 h2 h3 h4 => by omega)
  | succ m ih =>
    intro n x4 x7 N h hm hq hg hgn
    exact r_mr_step hp hW hpc hb hH h hx5 hq ⟨hg0, hg⟩ hgn (fun N1 n x4 x7 h1 h2 h3 h4 => ih n x4 x7 N1 h1 (by omega) ⟨by omega, by omega, by omega⟩ (by omega) h4)
theorem r_mr_item {n gr x4 x5 x6 x7 : Int} {N : EM} (hp : 0 ≤ p ∧ p < 40) (hW : r_W g0) (hpc : g0 1198 = p) (hb : r_bl M0) (hH : r_RH p (N 192 15) g0 M0) (h : r_RI p g0 M0 n x4 N) (hq : 0 ≤ N 192 15 ∧ N 192 15 ≤ 120) (hg : 0 ≤ gr ∧ gr ≤ N 192 15) (hgn : x4 = 1 → gr ≤ n) : r_MR p (N 192 15) g0 M0 (E_V 186 7 [192, p, n, gr, x4, x5, x6, x7] N) := by
  have hb3 := hb.2.2
  have w1 : e_w (N 192 15 + 1) = N 192 15 + 1 := a_w_id (by omega) (by omega)
  have q1 : (e_up N 192 15 (N 192 15 + 1)) 192 15 = N 192 15 + 1 := c_up_s
  have h1 := r_RI_p (v := N 192 15 + 1) h ⟨by omega, by omega⟩
  generalize hM1 : e_up N 192 15 (N 192 15 + 1) = M1 at q1 h1
  have T1 := r_mk_ty h1.1 hb ⟨by omega, by omega⟩
  obtain ⟨s, M2, k2, t2, hs, hs1⟩ := r_takesT (c := 91) T1 (by decide)
  have h2 := r_RI_t h1 t2
  have l2 := t2.2.2.1
  have u2 := t2.2.2.2.1
  have e17 := r_mk_17 h1.1
  obtain ⟨r, M', k, z⟩ := r_mr_in (x5 := s) hp hW hpc hb hH hs hg.1 _ n x4 x7 M2 h2 (Nat.le_refl _) (by omega) (by omega) hgn
  refine ⟨r, M', ?_, z⟩
  rw [E_V_eq]
  show e_tv E_C (E_V 186) e_t186_7 [192, p, n, gr, x4, x5, x6, x7] N = _
  unfold e_t186_7
  simp [zq_a, zq_b, zq_c, zq_d, zq_e, zq_f, zq_g, zq_h, zq_i, zq_j, zq_k, zq_l, zq_m, zq_n, zq_o, zq_p, zq_q, zq_r, zq_s, zq_t, zq_u, zq_v, zq_w, zq_x, zq_y, zq_z, zq_A, zq_B, zq_C, zq_D, zq_E, zq_F, zq_G, zq_H, zq_I, zq_J, zq_K, zq_L, ↓zq_M, ↓zq_N, ↓zq_O, ↓zq_P, ↓zq_Q, ↓zq_R, zq_S, zq_T, zq_U, zq_V, zq_W, zq_X, zq_Y, zq_Z, zq_0, zq_1, zq_2, zq_3, zq_4, zq_5, ↓zq_6, ↓zq_7, ↓zq_8, ↓zq_9, ↓zq_aa, zq_ab, zq_ac, zq_ad, zq_ae, zq_af, zq_ag, ↓zq_ah, ↓zq_ai, ↓zq_aj, zq_ak, ↓zq_al, ↓zq_am, e_b1, e_b2, x_o1, x_o2, r_F15, r_P15, w1, hM1, k2, k]
theorem r_MR_up {a b : Int} {o : EO} (h : r_MR p b g0 M0 o) (hab : a ≤ b) : r_MR p a g0 M0 o := by
  obtain ⟨r, M', k, z1, z2, z3⟩ := h
  exact ⟨r, M', k, z1, by omega, z3⟩
theorem r_mr_all (hp : 0 ≤ p ∧ p < 40) (hW : r_W g0) (hpc : g0 1198 = p) (hb : r_bl M0) : ∀ (m : Nat) (n gr x4 x5 x6 x7 : Int) (N : EM), r_RI p g0 M0 n x4 N → (M0 192 17 - N 192 15).toNat ≤ m → (0 ≤ N 192 15 ∧ N 192 15 ≤ 120) → (0 ≤ gr ∧ gr ≤ N 192 15) → (x4 = 1 → gr ≤ n) → r_MR p (N 192 15) g0 M0 (E_V 186 7 [192, p, n, gr, x4, x5, x6, x7] N) := by
  have hb3 := hb.2.2
  intro m
  induction m with
  | zero =>
    intro n gr x4 x5 x6 x7 N h hm hq hg hgn
    exact r_mr_item hp hW hpc hb (fun N1 n gr x4 x5 x6 x7 h1 h2 h3 h4 h5 => by omega) h hq hg hgn
  | succ m ih =>
    intro n gr x4 x5 x6 x7 N h hm hq hg hgn
    exact r_mr_item hp hW hpc hb (fun N1 n gr x4 x5 x6 x7 h1 h2 h3 h4 h5 => r_MR_up (ih n gr x4 x5 x6 x7 N1 h1 (by omega) ⟨by omega, by omega⟩ h4 h5) (by omega)) h hq hg hgn
theorem r_makesRow {M : EM} (hp : 0 ≤ p ∧ p < 40) (hW : r_W g0) (hpc : g0 1198 = p) (hb : r_bl M0) (hk : r_mk p 1 g0 M0 M) (hq : 0 ≤ M 192 15 ∧ M 192 15 ≤ 120) : r_MR p (M 192 15) g0 M0 (E_C 186 [192, p] M) := by
  obtain ⟨r, M', k, z⟩ := r_mr_all hp hW hpc hb _ 0 0 1 0 0 0 M ⟨hk, by decide, Or.inr rfl, fun _ k k0 k1 => by omega⟩ (Nat.le_refl _) hq ⟨by decide, hq.1⟩ (fun _ => by decide)
  refine ⟨r, M', ?_, z⟩
  rw [r_ent (show e_rok 186 [192, p] = true from decide_eq_true r_ref)]
  show e_tv E_C (E_V 186) e_t186_0 [192, p, 0, 0, 0, 0, 0, 0] M = _
  unfold e_t186_0
  simp [zq_a, zq_b, zq_c, zq_d, zq_e, zq_f, zq_g, zq_h, zq_i, zq_j, zq_k, zq_l, zq_m, zq_n, zq_o, zq_p, zq_q, zq_r, zq_s, zq_t, zq_u, zq_v, zq_w, zq_x, zq_y, zq_z, zq_A, zq_B, zq_C, zq_D, zq_E, zq_F, zq_G, zq_H, zq_I, zq_J, zq_K, zq_L, ↓zq_M, ↓zq_N, ↓zq_O, ↓zq_P, ↓zq_Q, ↓zq_R, zq_S, zq_T, zq_U, zq_V, zq_W, zq_X, zq_Y, zq_Z, zq_0, zq_1, zq_2, zq_3, zq_4, zq_5, ↓zq_6, ↓zq_7, ↓zq_8, ↓zq_9, ↓zq_aa, zq_ab, zq_ac, zq_ad, zq_ae, zq_af, zq_ag, ↓zq_ah, ↓zq_ai, ↓zq_aj, zq_ak, ↓zq_al, ↓zq_am, e_b1, e_b2, x_o1, x_o2, k]
end RROW
end
section
/-! a STATEMENT made, a TEXT told, by the reference -/
theorem r_pt_far {g g' : Int → Int} {b x : Int} (h : ∀ i, i < 1120 → g' i = g i) (hb : b ≤ 40) (hx : r_pt g b x) : r_pt g' b x := by
  have oth : ∀ x, x < 40 → ∀ j, 0 ≤ j → j < 28 → g' (28 * x + j) = g (28 * x + j) := fun x hx j h1 h2 => h _ (by omega)
  have oth0 : ∀ x, x < 40 → g' (28 * x) = g (28 * x) := fun x hx => h _ (by omega)
  have c1 : ∀ b, b ≤ 40 → ∀ y, r_cl g b y → r_cl g' b y := by
    intro b hb y hy
    have hx : y < 40 := by have := hy.2.1; omega
    exact r_cl_eq (oth0 y hx) (oth y hx 2 (by decide) (by decide)) (r_lies_eq (fun j j0 j1 => oth y hx j (by omega) (by omega))) hy
  have c2 : ∀ b, b ≤ 40 → ∀ y, r_rw g b y → r_rw g' b y := by
    intro b hb y hy
    have hx : y < 40 := by have := hy.2.1; omega
    exact r_rw_eq (fun j j0 j1 _ => oth y hx j j0 j1) (c1 y (by omega)) hy
  have c3 : ∀ b, b ≤ 40 → ∀ y, r_fd g b y → r_fd g' b y := by
    intro b hb y hy
    have hx : y < 40 := by have := hy.2.1; omega
    exact r_fd_eq (fun j j0 j1 _ => oth y hx j j0 j1) (c1 y (by omega)) (c2 y (by omega)) hy
  have c4 : ∀ b, b ≤ 40 → ∀ y, r_bx g b y → r_bx g' b y := by
    intro b hb y hy
    have hx : y < 40 := by have := hy.2.1; omega
    exact r_bx_eq (oth0 y hx) (oth y hx 2 (by decide) (by decide)) (oth y hx 3 (by decide) (by decide)) (fun h4 => by rw [oth y hx 4 (by decide) (by decide)]; exact h4) (c1 y (by omega)) (c2 y (by omega)) (c3 y (by omega)) hy
  exact hx.imp (c1 _ hb _) (Or.imp (c2 _ hb _) (Or.imp (c3 _ hb _) (c4 _ hb _)))
theorem r_Z_eq2 {g g' : Int → Int} (hz : r_Z g) (h : ∀ i, 1174 ≤ i → i ≤ 1200 → i ≠ 1198 → g' i = g i) : r_Z g' := by
  obtain ⟨z1, z2, z3, z4, z5⟩ := hz
  refine ⟨by rw [h _ (by decide) (by decide) (by decide)]; exact z1, by rw [h _ (by decide) (by decide) (by decide)]; exact z2, fun k k0 k1 => ?_, by rw [h _ (by decide) (by decide) (by decide)]; exact z4, by rw [h _ (by decide) (by decide) (by decide)]; exact z5⟩
  rw [h _ (by omega) (by omega) (by omega), h _ (by omega) (by omega) (by omega)]
  exact z3 k k0 k1
/-- what a STATEMENT leaves -/
def r_MK (M0 : EM) (o : EO) : Prop := ∃ r M', o = some (r, M') ∧ a_M M' ∧ (∀ id k, id ≠ 193 → ¬ (id = 192 ∧ (k = 15 ∨ k = 18)) → M' id k = M0 id k) ∧ r_N99 M' ∧ (∀ i, 1120 ≤ i → i ≠ 1198 → r_G M' i = r_G M0 i) ∧ M0 192 15 < M' 192 15 ∧ M' 192 15 ≤ 140 ∧ (r ≠ 0 → r_W (r_G M'))
/-- its end: pos and COUNT one more -/
theorem r_mk_189 {p kd x2 x3 x4 : Int} {M0 N : EM} (hp : 0 ≤ p ∧ p < 40) (hW : r_W (r_G M0)) (hpc : r_G M0 1198 = p) (hk : r_mk p kd (r_G M0) M0 N) (hq : M0 192 15 < N 192 15 ∧ 0 ≤ N 192 15 ∧ N 192 15 ≤ 130) (hx : x4 ≠ 0 → r_pt (r_G N) (p + 1) p) : r_MK M0 (E_V 188 189 [192, p, x2, x3, x4] N) := by
  have hk' := hk
  obtain ⟨a1, a2, a3, a4, a5, a6, a7, a8⟩ := hk'
  have w1 : e_w (N 192 15 + 1) = N 192 15 + 1 := a_w_id (by omega) (by omega)
  have q1 : (e_up N 192 15 (N 192 15 + 1)) 192 15 = N 192 15 + 1 := c_up_s
  have h1 := r_mk_p (v := N 192 15 + 1) hk ⟨by omega, by omega⟩
  have eG1 : r_G (e_up N 192 15 (N 192 15 + 1)) = r_G N := r_up_Gne (by decide)
  generalize hN1 : e_up N 192 15 (N 192 15 + 1) = N1 at q1 h1 eG1
  have e1198 : r_G N1 1198 = p := (h1.2.2.2.1 1198 (by omega)).trans hpc
  have l1 : e_op 60 [193, 1198] N1 = some p := (r_rd (by decide) (by decide)).trans (congrArg some e1198)
  have w2 : e_w (p + 1) = p + 1 := a_w_id (by omega) (by omega)
  have s1 : e_st 100 [193, 1198, p + 1] N1 = some (e_up N1 193 (1198 : Int).toNat (p + 1)) := r_stw (i := 1198) (by decide) (by decide)
  obtain ⟨b1, b2, b3, b4, b5, b6, b7, b8⟩ := h1
  have far : ∀ i, i ≠ 1198 → r_G (e_up N1 193 (1198 : Int).toNat (p + 1)) i = r_G N1 i := fun i hi => r_G_n (by decide) hi
  have near : r_G (e_up N1 193 (1198 : Int).toNat (p + 1)) 1198 = p + 1 := r_G_s
  refine ⟨x4, e_up N1 193 (1198 : Int).toNat (p + 1), ?_, r_upw ⟨by omega, by omega⟩ b1, fun id k h1 h2 => (r_n193 h1).trans (b2 id k h1 h2), ?_, fun i i0 i1 => (far i i1).trans (b4 i (by omega)), ?_, ?_, fun h5 => ?_⟩
  · rw [E_V_eq]
    show e_tv E_C (E_V 188) e_t188_189 [192, p, x2, x3, x4] N = _
    unfold e_t188_189
    simp only [show (1198 : Int).toNat = 1198 from rfl] at s1 ⊢
    simp [zq_a, zq_b, zq_c, zq_d, zq_e, zq_f, zq_g, zq_h, zq_i, zq_j, zq_k, zq_l, zq_m, zq_n, zq_o, zq_p, zq_q, zq_r, zq_s, zq_t, zq_u, zq_v, zq_w, zq_x, zq_y, zq_z, zq_A, zq_B, zq_C, zq_D, zq_E, zq_F, zq_G, zq_H, zq_I, zq_J, zq_K, zq_L, ↓zq_M, ↓zq_N, ↓zq_O, ↓zq_P, ↓zq_Q, ↓zq_R, zq_S, zq_T, zq_U, zq_V, zq_W, zq_X, zq_Y, zq_Z, zq_0, zq_1, zq_2, zq_3, zq_4, zq_5, ↓zq_6, ↓zq_7, ↓zq_8, ↓zq_9, ↓zq_aa, zq_ab, zq_ac, zq_ad, zq_ae, zq_af, zq_ag, ↓zq_ah, ↓zq_ai, ↓zq_aj, zq_ak, ↓zq_al, ↓zq_am, e_b1, e_b2, x_o1, x_o2, r_O0, r_F15, r_P15, w1, hN1, l1, w2, s1]
  · unfold r_N99
    rw [r_n193 (by decide)]
    exact b8
  · rw [r_n193 (by decide), q1]; omega
  · rw [r_n193 (by decide), q1]; omega
  · have hh : ∀ i, i < 1120 → r_G (e_up N1 193 (1198 : Int).toNat (p + 1)) i = r_G N i := fun i hi => by rw [far i (by omega), eG1]
    refine ⟨by rw [near]; omega, by rw [near]; omega, fun x x0 x1 => ?_, r_Z_eq2 hW.2.2.2 (fun i i0 i1 e => ?_)⟩
    · rw [near] at x1 ⊢
      by_cases hxp : x = p
      · subst hxp
        exact r_pt_far hh (by omega) (hx h5)
      · have h0 := hW.2.2.1 x x0 (by rw [hpc]; omega)
        rw [hpc] at h0
        have h2 : r_pt (r_G N) p x := by
          rcases h0 with h | h | h | h
          · exact Or.inl (r_mk_cl' hk (Int.le_refl _) h)
          · exact Or.inr (Or.inl (r_mk_rw' hk (Int.le_refl _) h))
          · exact Or.inr (Or.inr (Or.inl (r_mk_fd' hk (Int.le_refl _) h)))
          · exact Or.inr (Or.inr (Or.inr (r_mk_bx' hk (Int.le_refl _) h)))
        exact r_pt_far hh (by omega) (r_pt_up h2 (by omega))
    · exact (far i e).trans (b4 i (by omega))
theorem r_mem_pt {kd p y : Int} {g0 : Int → Int} {M0 N : EM} (hk : r_mk p kd g0 M0 N) (h : r_mem kd g0 p y) : r_cl (r_G N) p y ∨ r_rw (r_G N) p y ∨ (kd = 3 ∧ r_fd (r_G N) p y) := by
  rcases h with h | h | ⟨h0, h⟩
  · exact Or.inl (r_mk_cl' hk (Int.le_refl _) h)
  · exact Or.inr (Or.inl (r_mk_rw' hk (Int.le_refl _) h))
  · exact Or.inr (Or.inr ⟨h0, r_mk_fd' hk (Int.le_refl _) h⟩)
/-- the KIND is chosen -/
theorem r_mk_kind {p x4 : Int} {M0 N : EM} (hp : 0 ≤ p ∧ p < 40) (hW : r_W (r_G M0)) (hpc : r_G M0 1198 = p) (hb : r_bl M0) (hT : r_ty N) (hq0 : N 192 15 = M0 192 15) (hq : 0 ≤ M0 192 15 ∧ M0 192 15 ≤ 120) (hN : ∀ kd : Int, (0 ≤ kd ∧ kd ≤ 3) → r_mk p kd (r_G M0) M0 (e_up N 193 (28 * p).toNat kd)) : r_MK M0 (E_V 188 19 [192, p, 28, 0, x4] N) := by
  have ks := r_sign hT
  have w1 : e_w (28 * p) = 28 * p := a_w_id (by omega) (by omega)
  have st := fun v => r_stw (i := 28 * p) (v := v) (M := N) (by omega) (by omega)
  have n159 : ∀ x2 x3 y4 N1, x3 ≠ 3 → E_V 188 159 [192, p, x2, x3, y4] N1 = E_V 188 189 [192, p, x2, x3, y4] N1 := by
    intro x2 x3 y4 N1 h3
    rw [E_V_eq]
    show e_tv E_C (E_V 188) e_t188_159 [192, p, x2, x3, y4] N1 = _
    unfold e_t188_159
    simp [zq_a, zq_b, zq_c, zq_d, zq_e, zq_f, zq_g, zq_h, zq_i, zq_j, zq_k, zq_l, zq_m, zq_n, zq_o, zq_p, zq_q, zq_r, zq_s, zq_t, zq_u, zq_v, zq_w, zq_x, zq_y, zq_z, zq_A, zq_B, zq_C, zq_D, zq_E, zq_F, zq_G, zq_H, zq_I, zq_J, zq_K, zq_L, ↓zq_M, ↓zq_N, ↓zq_O, ↓zq_P, ↓zq_Q, ↓zq_R, zq_S, zq_T, zq_U, zq_V, zq_W, zq_X, zq_Y, zq_Z, zq_0, zq_1, zq_2, zq_3, zq_4, zq_5, ↓zq_6, ↓zq_7, ↓zq_8, ↓zq_9, ↓zq_aa, zq_ab, zq_ac, zq_ad, zq_ae, zq_af, zq_ag, ↓zq_ah, ↓zq_ai, ↓zq_aj, zq_ak, ↓zq_al, ↓zq_am, e_b1, e_b2, x_o1, x_o2, h3]
  by_cases c0 : r_sg N = 99
  · have hk := hN 0 (by decide)
    obtain ⟨r, M1, k1, z1, z2, z3, z4⟩ := r_makesCell hp hb hk (by rw [r_n192, hq0]; exact hq)
    rw [r_n192, hq0] at z2
    have w2 : e_w (28 * p + 15) = 28 * p + 15 := a_w_id (by omega) (by omega)
    have s2 := r_stw (i := 28 * p + 15) (v := 100) (M := M1) (by omega) (by omega)
    have z1' := r_mk_w (i := 28 * p + 15) (v := 100) z1 hp.1 (by omega) (fun _ => by omega) (fun e => absurd e (by decide)) (by decide)
    have hcl : r_cl (r_G (e_up M1 193 (28 * p + 15).toNat 100)) (p + 1) p := r_cl_eq (r_G_n (by omega) (by omega)) (r_G_n (by omega) (by omega)) (r_lies_eq (fun j j0 j1 => r_G_n (by omega) (by omega))) z4
    obtain ⟨r', M', k, t⟩ := r_mk_189 (x2 := 99) (x3 := 0) (x4 := r) hp hW hpc z1' (by rw [r_n192]; omega) (fun _ => Or.inl hcl)
    refine ⟨r', M', ?_, t⟩
    have k159 := (n159 99 0 r (e_up M1 193 (28 * p + 15).toNat 100) (by decide)).trans k
    rw [E_V_eq]
    show e_tv E_C (E_V 188) e_t188_19 [192, p, 28, 0, x4] N = _
    unfold e_t188_19
    rw [c0] at ks
    simp [zq_a, zq_b, zq_c, zq_d, zq_e, zq_f, zq_g, zq_h, zq_i, zq_j, zq_k, zq_l, zq_m, zq_n, zq_o, zq_p, zq_q, zq_r, zq_s, zq_t, zq_u, zq_v, zq_w, zq_x, zq_y, zq_z, zq_A, zq_B, zq_C, zq_D, zq_E, zq_F, zq_G, zq_H, zq_I, zq_J, zq_K, zq_L, ↓zq_M, ↓zq_N, ↓zq_O, ↓zq_P, ↓zq_Q, ↓zq_R, zq_S, zq_T, zq_U, zq_V, zq_W, zq_X, zq_Y, zq_Z, zq_0, zq_1, zq_2, zq_3, zq_4, zq_5, ↓zq_6, ↓zq_7, ↓zq_8, ↓zq_9, ↓zq_aa, zq_ab, zq_ac, zq_ad, zq_ae, zq_af, zq_ag, ↓zq_ah, ↓zq_ai, ↓zq_aj, zq_ak, ↓zq_al, ↓zq_am, e_b1, e_b2, x_o1, x_o2, r_O0, ks, w1, st, k1, w2, s2, k159]
  · by_cases c1 : r_sg N = 114
    · have hk := hN 1 (by decide)
      obtain ⟨r, M1, k1, z1, z2, z3, z4, z5⟩ := r_makesRow hp hW hpc hb hk (by rw [r_n192, hq0]; exact hq)
      rw [r_n192, hq0] at z2
      obtain ⟨r', M', k, t⟩ := r_mk_189 (x2 := 114) (x3 := 1) (x4 := r) hp hW hpc z1 (by omega) (fun h => Or.inr (Or.inl (z5 (z4.resolve_left h))))
      refine ⟨r', M', ?_, t⟩
      have k159 := (n159 114 1 r M1 (by decide)).trans k
      rw [E_V_eq]
      show e_tv E_C (E_V 188) e_t188_19 [192, p, 28, 0, x4] N = _
      unfold e_t188_19
      rw [c1] at ks
      simp [zq_a, zq_b, zq_c, zq_d, zq_e, zq_f, zq_g, zq_h, zq_i, zq_j, zq_k, zq_l, zq_m, zq_n, zq_o, zq_p, zq_q, zq_r, zq_s, zq_t, zq_u, zq_v, zq_w, zq_x, zq_y, zq_z, zq_A, zq_B, zq_C, zq_D, zq_E, zq_F, zq_G, zq_H, zq_I, zq_J, zq_K, zq_L, ↓zq_M, ↓zq_N, ↓zq_O, ↓zq_P, ↓zq_Q, ↓zq_R, zq_S, zq_T, zq_U, zq_V, zq_W, zq_X, zq_Y, zq_Z, zq_0, zq_1, zq_2, zq_3, zq_4, zq_5, ↓zq_6, ↓zq_7, ↓zq_8, ↓zq_9, ↓zq_aa, zq_ab, zq_ac, zq_ad, zq_ae, zq_af, zq_ag, ↓zq_ah, ↓zq_ai, ↓zq_aj, zq_ak, ↓zq_al, ↓zq_am, e_b1, e_b2, x_o1, x_o2, r_O0, ks, w1, st, k1, k159]
    · by_cases c2 : r_sg N = 102
      · have hk := hN 2 (by decide)
        obtain ⟨r, M1, k1, z1, z2, z3, z4, z5⟩ := r_makesOver hp.2 hW hpc hb (Or.inl ⟨rfl, rfl, rfl⟩) hk (by rw [r_n192, hq0]; exact hq)
        rw [r_n192, hq0] at z2
        obtain ⟨r', M', k, t⟩ := r_mk_189 (x2 := 102) (x3 := 2) (x4 := r) hp hW hpc z1 (by omega) (fun h => by
          obtain ⟨y1, y2, y3⟩ := z5 (z4.resolve_left h)
          refine Or.inr (Or.inr (Or.inl ⟨hp.1, by omega, z1.2.2.2.2.1, by omega, y2, fun k k0 k1 => ?_⟩))
          rcases r_mem_pt z1 (y3 k k0 k1) with h | h | ⟨h, -⟩
          · exact Or.inl h
          · exact Or.inr h
          · exact absurd h (by decide))
        refine ⟨r', M', ?_, t⟩
        have k159 := (n159 102 2 r M1 (by decide)).trans k
        rw [E_V_eq]
        show e_tv E_C (E_V 188) e_t188_19 [192, p, 28, 0, x4] N = _
        unfold e_t188_19
        rw [c2] at ks
        simp [zq_a, zq_b, zq_c, zq_d, zq_e, zq_f, zq_g, zq_h, zq_i, zq_j, zq_k, zq_l, zq_m, zq_n, zq_o, zq_p, zq_q, zq_r, zq_s, zq_t, zq_u, zq_v, zq_w, zq_x, zq_y, zq_z, zq_A, zq_B, zq_C, zq_D, zq_E, zq_F, zq_G, zq_H, zq_I, zq_J, zq_K, zq_L, ↓zq_M, ↓zq_N, ↓zq_O, ↓zq_P, ↓zq_Q, ↓zq_R, zq_S, zq_T, zq_U, zq_V, zq_W, zq_X, zq_Y, zq_Z, zq_0, zq_1, zq_2, zq_3, zq_4, zq_5, ↓zq_6, ↓zq_7, ↓zq_8, ↓zq_9, ↓zq_aa, zq_ab, zq_ac, zq_ad, zq_ae, zq_af, zq_ag, ↓zq_ah, ↓zq_ai, ↓zq_aj, zq_ak, ↓zq_al, ↓zq_am, e_b1, e_b2, x_o1, x_o2, r_O0, ks, w1, st, k1, k159]
      · have hk := hN 3 (by decide)
        obtain ⟨r, M1, k1, z1, z2, z3, z4, z5⟩ := r_makesOver hp.2 hW hpc hb (Or.inr ⟨rfl, rfl, rfl⟩) hk (by rw [r_n192, hq0]; exact hq)
        rw [r_n192, hq0] at z2
        have w2 : e_w (28 * p + 5) = 28 * p + 5 := a_w_id (by omega) (by omega)
        have w3 : e_w (28 * p + 6) = 28 * p + 6 := a_w_id (by omega) (by omega)
        have s2 := r_stw (i := 28 * p + 5) (v := 5) (M := M1) (by omega) (by omega)
        have s3 := r_stw (i := 28 * p + 6) (v := 1) (M := e_up M1 193 (28 * p + 5).toNat 5) (by omega) (by omega)
        have y1' := r_mk_w (i := 28 * p + 5) (v := 5) z1 hp.1 (by omega) (fun e => absurd e (by decide)) (fun _ => by omega) (by decide)
        have y2' := r_mk_w (i := 28 * p + 6) (v := 1) y1' hp.1 (by omega) (fun e => absurd e (by decide)) (fun _ => by omega) (by decide)
        have same : ∀ i, i ≠ 28 * p + 5 → i ≠ 28 * p + 6 → r_G (e_up (e_up M1 193 (28 * p + 5).toNat 5) 193 (28 * p + 6).toNat 1) i = r_G M1 i := fun i h1 h2 => (r_G_n (by omega) h2).trans (r_G_n (by omega) h1)
        obtain ⟨r', M', k, t⟩ := r_mk_189 (x2 := r_sg N) (x3 := 3) (x4 := r) hp hW hpc y2' (by rw [r_n192, r_n192]; omega) (fun h => by
          obtain ⟨y1, y2, y3⟩ := z5 (z4.resolve_left h)
          refine Or.inr (Or.inr (Or.inr ⟨hp.1, by omega, y2'.2.2.2.2.1, ⟨?_, ?_⟩, ?_⟩))
          · rw [same _ (by omega) (by omega)]; omega
          · rw [y2'.2.2.2.2.2.2.1 rfl]; decide
          · rw [same _ (by omega) (by omega)]
            have h0 := y3 0 (by decide) (by omega)
            rw [Int.add_zero] at h0
            exact (r_mem_pt y2' h0).imp id (Or.imp id (fun h => h.2)))
        refine ⟨r', M', ?_, t⟩
        have k159 : E_V 188 159 [192, p, r_sg N, 3, r] M1 = some (r', M') := by
          rw [E_V_eq]
          show e_tv E_C (E_V 188) e_t188_159 [192, p, r_sg N, 3, r] M1 = _
          unfold e_t188_159
          simp [zq_a, zq_b, zq_c, zq_d, zq_e, zq_f, zq_g, zq_h, zq_i, zq_j, zq_k, zq_l, zq_m, zq_n, zq_o, zq_p, zq_q, zq_r, zq_s, zq_t, zq_u, zq_v, zq_w, zq_x, zq_y, zq_z, zq_A, zq_B, zq_C, zq_D, zq_E, zq_F, zq_G, zq_H, zq_I, zq_J, zq_K, zq_L, ↓zq_M, ↓zq_N, ↓zq_O, ↓zq_P, ↓zq_Q, ↓zq_R, zq_S, zq_T, zq_U, zq_V, zq_W, zq_X, zq_Y, zq_Z, zq_0, zq_1, zq_2, zq_3, zq_4, zq_5, ↓zq_6, ↓zq_7, ↓zq_8, ↓zq_9, ↓zq_aa, zq_ab, zq_ac, zq_ad, zq_ae, zq_af, zq_ag, ↓zq_ah, ↓zq_ai, ↓zq_aj, zq_ak, ↓zq_al, ↓zq_am, e_b1, e_b2, x_o1, x_o2, r_O0, w1, w2, w3, s2, s3, k]
        rw [E_V_eq]
        show e_tv E_C (E_V 188) e_t188_19 [192, p, 28, 0, x4] N = _
        unfold e_t188_19
        simp [zq_a, zq_b, zq_c, zq_d, zq_e, zq_f, zq_g, zq_h, zq_i, zq_j, zq_k, zq_l, zq_m, zq_n, zq_o, zq_p, zq_q, zq_r, zq_s, zq_t, zq_u, zq_v, zq_w, zq_x, zq_y, zq_z, zq_A, zq_B, zq_C, zq_D, zq_E, zq_F, zq_G, zq_H, zq_I, zq_J, zq_K, zq_L, ↓zq_M, ↓zq_N, ↓zq_O, ↓zq_P, ↓zq_Q, ↓zq_R, zq_S, zq_T, zq_U, zq_V, zq_W, zq_X, zq_Y, zq_Z, zq_0, zq_1, zq_2, zq_3, zq_4, zq_5, ↓zq_6, ↓zq_7, ↓zq_8, ↓zq_9, ↓zq_aa, zq_ab, zq_ac, zq_ad, zq_ae, zq_af, zq_ag, ↓zq_ah, ↓zq_ai, ↓zq_aj, zq_ak, ↓zq_al, ↓zq_am, e_b1, e_b2, x_o1, x_o2, r_O0, ks, c0, c1, c2, w1, st, k1, k159]
/-- the new PART's cells, 0 so far -/
def r_zr (p x2 : Int) (M0 N : EM) : Prop := a_M N ∧ (∀ id k, id ≠ 193 → N id k = M0 id k) ∧ (∀ i, 0 ≤ i → (i < 28 * p ∨ 28 * p + 28 ≤ i) → r_G N i = r_G M0 i) ∧ (∀ j, 0 ≤ j → j < x2 → r_G N (28 * p + j) = 0)
theorem r_zr_mk {p kd : Int} {M0 N : EM} (hp : 0 ≤ p) (hn : r_N99 M0) (h : r_zr p 28 M0 N) (hkd : 0 ≤ kd ∧ kd ≤ 3) : r_mk p kd (r_G M0) M0 (e_up N 193 (28 * p).toNat kd) := by
  obtain ⟨h1, h2, h3, h4⟩ := h
  have far : ∀ i, 0 ≤ i → i ≠ 28 * p → r_G (e_up N 193 (28 * p).toNat kd) i = r_G N i := fun i h0 h1 => c_up_n (fun hc => by have := hc.2; omega)
  refine ⟨r_upw ⟨by omega, by omega⟩ h1, fun id k k1 k2 => (r_n193 k1).trans (h2 id k k1), fun i i0 i1 i2 => (far i i0 (by omega)).trans (h3 i i0 (Or.inl i1)), fun i i0 => (far i (by omega) (by omega)).trans (h3 i (by omega) (Or.inr i0)), r_G_s, fun _ => (far _ (by omega) (by omega)).trans (h4 20 (by decide) (by decide)), fun _ => (far _ (by omega) (by omega)).trans (h4 4 (by decide) (by decide)), ?_⟩
  unfold r_N99
  rw [r_n193 (by decide), h2 192 18 (by decide)]
  exact hn
theorem r_mk_zero {p x4 : Int} {M0 : EM} (hp : 0 ≤ p ∧ p < 40) (hW : r_W (r_G M0)) (hpc : r_G M0 1198 = p) (hT : r_ty M0) (hn : r_N99 M0) (hq : 0 ≤ M0 192 15 ∧ M0 192 15 ≤ 120) : ∀ (m : Nat) (x2 : Int) (N : EM), r_zr p x2 M0 N → (28 - x2).toNat ≤ m → 0 ≤ x2 → x2 ≤ 28 → r_MK M0 (E_V 188 19 [192, p, x2, 0, x4] N) := by
  have hend : ∀ x2 N, r_zr p x2 M0 N → x2 = 28 → r_MK M0 (E_V 188 19 [192, p, x2, 0, x4] N) := by
    intro x2 N hz e
    subst e
    obtain ⟨t1, t2, t3, t4, t5, t6⟩ := hT
    have z2 := hz.2.1
    refine r_mk_kind hp hW hpc ⟨t4, t5, t6⟩ ⟨hz.1, ?_, ?_, ?_, ?_, ?_⟩ (z2 _ _ (by decide)) hq (fun kd hkd => r_zr_mk hp.1 hn hz hkd)
    · rw [z2 _ _ (by decide)]; exact t2
    · rw [z2 _ _ (by decide)]; exact t3
    · rw [z2 _ _ (by decide)]; exact t4
    · rw [z2 _ _ (by decide)]; exact t5
    · rw [z2 _ _ (by decide)]; exact t6
  intro m
  induction m with
  | zero => intro x2 N hz hm h0 h1; exact hend x2 N hz (by omega)
  | succ m ih =>
    intro x2 N hz hm h0 h1
    rcases x_lt x2 28 with ⟨q, q_n⟩ | ⟨q, q_n⟩
    · have w1 : e_w (28 * p) = 28 * p := a_w_id (by omega) (by omega)
      have w2 : e_w (28 * p + x2) = 28 * p + x2 := a_w_id (by omega) (by omega)
      have w3 : e_w (x2 + 1) = x2 + 1 := a_w_id (by omega) (by omega)
      have st := r_stw (i := 28 * p + x2) (v := 0) (M := N) (by omega) (by omega)
      obtain ⟨z1, z2, z3, z4⟩ := hz
      have far : ∀ i, 0 ≤ i → i ≠ 28 * p + x2 → r_G (e_up N 193 (28 * p + x2).toNat 0) i = r_G N i := fun i h0 h1 => c_up_n (fun hc => by have := hc.2; omega)
      obtain ⟨r, M', k, t⟩ := ih (x2 + 1) (e_up N 193 (28 * p + x2).toNat 0) ⟨r_upw (by decide) z1, fun id k h => (r_n193 h).trans (z2 id k h), fun i i0 i1 => (far i i0 (by omega)).trans (z3 i i0 i1), fun j j0 j1 => by
        by_cases e : j = x2
        · subst e; exact r_G_s
        · exact (far _ (by omega) (by omega)).trans (z4 j j0 (by omega))⟩ (by omega) (by omega) (by omega)
      refine ⟨r, M', ?_, t⟩
      rw [E_V_eq]
      show e_tv E_C (E_V 188) e_t188_19 [192, p, x2, 0, x4] N = _
      unfold e_t188_19
      simp [zq_a, zq_b, zq_c, zq_d, zq_e, zq_f, zq_g, zq_h, zq_i, zq_j, zq_k, zq_l, zq_m, zq_n, zq_o, zq_p, zq_q, zq_r, zq_s, zq_t, zq_u, zq_v, zq_w, zq_x, zq_y, zq_z, zq_A, zq_B, zq_C, zq_D, zq_E, zq_F, zq_G, zq_H, zq_I, zq_J, zq_K, zq_L, ↓zq_M, ↓zq_N, ↓zq_O, ↓zq_P, ↓zq_Q, ↓zq_R, zq_S, zq_T, zq_U, zq_V, zq_W, zq_X, zq_Y, zq_Z, zq_0, zq_1, zq_2, zq_3, zq_4, zq_5, ↓zq_6, ↓zq_7, ↓zq_8, ↓zq_9, ↓zq_aa, zq_ab, zq_ac, zq_ad, zq_ae, zq_af, zq_ag, ↓zq_ah, ↓zq_ai, ↓zq_aj, zq_ak, ↓zq_al, ↓zq_am, e_b1, e_b2, x_o1, x_o2, r_O0, q, q_n, w1, w2, w3, st, k]
    · exact hend x2 N hz (by omega)
theorem r_makes {M0 : EM} (hW : r_W (r_G M0)) (hT : r_ty M0) (hn : r_N99 M0) (hq : 0 ≤ M0 192 15 ∧ M0 192 15 ≤ 120) : (r_G M0 1198 = 40 ∧ E_C 188 [192] M0 = some (0, M0)) ∨ r_MK M0 (E_C 188 [192] M0) := by
  have l1 : e_op 60 [193, 1198] M0 = some (r_G M0 1198) := r_rd (by decide) (by decide)
  by_cases c : r_G M0 1198 = 40
  · refine Or.inl ⟨c, ?_⟩
    rw [r_ent (show e_rok 188 [192] = true from decide_eq_true r_ref)]
    show e_tv E_C (E_V 188) e_t188_0 [192, 0, 0, 0, 0] M0 = _
    unfold e_t188_0
    simp [zq_a, zq_b, zq_c, zq_d, zq_e, zq_f, zq_g, zq_h, zq_i, zq_j, zq_k, zq_l, zq_m, zq_n, zq_o, zq_p, zq_q, zq_r, zq_s, zq_t, zq_u, zq_v, zq_w, zq_x, zq_y, zq_z, zq_A, zq_B, zq_C, zq_D, zq_E, zq_F, zq_G, zq_H, zq_I, zq_J, zq_K, zq_L, ↓zq_M, ↓zq_N, ↓zq_O, ↓zq_P, ↓zq_Q, ↓zq_R, zq_S, zq_T, zq_U, zq_V, zq_W, zq_X, zq_Y, zq_Z, zq_0, zq_1, zq_2, zq_3, zq_4, zq_5, ↓zq_6, ↓zq_7, ↓zq_8, ↓zq_9, ↓zq_aa, zq_ab, zq_ac, zq_ad, zq_ae, zq_af, zq_ag, ↓zq_ah, ↓zq_ai, ↓zq_aj, zq_ak, ↓zq_al, ↓zq_am, e_b1, e_b2, x_o1, x_o2, r_O0, l1, c]
  · have hp : 0 ≤ r_G M0 1198 ∧ r_G M0 1198 < 40 := ⟨hW.1, by have := hW.2.1; omega⟩
    obtain ⟨r, M', k, t⟩ := r_mk_zero (x4 := 0) hp hW rfl hT hn hq 28 0 M0 ⟨hT.1, fun _ _ _ => rfl, fun _ _ _ => rfl, fun j j0 j1 => by omega⟩ (by decide) (by decide) (by decide)
    refine Or.inr ⟨r, M', ?_, t⟩
    rw [r_ent (show e_rok 188 [192] = true from decide_eq_true r_ref)]
    show e_tv E_C (E_V 188) e_t188_0 [192, 0, 0, 0, 0] M0 = _
    unfold e_t188_0
    simp [zq_a, zq_b, zq_c, zq_d, zq_e, zq_f, zq_g, zq_h, zq_i, zq_j, zq_k, zq_l, zq_m, zq_n, zq_o, zq_p, zq_q, zq_r, zq_s, zq_t, zq_u, zq_v, zq_w, zq_x, zq_y, zq_z, zq_A, zq_B, zq_C, zq_D, zq_E, zq_F, zq_G, zq_H, zq_I, zq_J, zq_K, zq_L, ↓zq_M, ↓zq_N, ↓zq_O, ↓zq_P, ↓zq_Q, ↓zq_R, zq_S, zq_T, zq_U, zq_V, zq_W, zq_X, zq_Y, zq_Z, zq_0, zq_1, zq_2, zq_3, zq_4, zq_5, ↓zq_6, ↓zq_7, ↓zq_8, ↓zq_9, ↓zq_aa, zq_ab, zq_ac, zq_ad, zq_ae, zq_af, zq_ag, ↓zq_ah, ↓zq_ai, ↓zq_aj, zq_ak, ↓zq_al, ↓zq_am, e_b1, e_b2, x_o1, x_o2, r_O0, l1, c, k]
end
