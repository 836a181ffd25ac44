section
/-! SHELVES: row, put -/
theorem h_270l {a : Int} (ha : 8 ≤ a ∧ a.toNat < e_N ∧ e_sh a.toNat = (100, 120)) : ∀ (m i : Nat) (M : EM), i + m = 120 → ∃ M', E_V 270 5 [a, 0, (i : Int), 120] M = some (0, M') ∧ (∀ id k, ¬ (id = a.toNat ∧ i ≤ k ∧ k < 120) → M' id k = M id k) ∧ ∀ k, i ≤ k → k < 120 → M' a.toNat k = 0 := by
  intro m
  induction m with
  | zero =>
    intro i M hm
    have e : i = 120 := by omega
    subst e
    refine ⟨M, ?_, fun _ _ _ => rfl, fun k h1 h2 => by omega⟩
    rw [E_V_eq]
    show e_tv E_C (E_V 270) e_t270_5 [a, 0, ((120 : Nat) : Int), 120] M = _
    unfold e_t270_5
    simp [zq_a, zq_b, zq_c, zq_d, zq_e, zq_f, zq_g, zq_h, zq_i, zq_j, zq_k, zq_l, zq_m, zq_n, zq_o, zq_p, zq_q, zq_r, zq_s, zq_t, zq_u, zq_v, zq_w, zq_x, zq_y, zq_z, zq_A, zq_B, zq_C, zq_D, zq_E, zq_F, zq_G, zq_H, zq_I, zq_J, zq_K, zq_L, ↓zq_M, ↓zq_N, ↓zq_O, ↓zq_P, ↓zq_Q, ↓zq_R, zq_S, zq_T, zq_U, zq_V, zq_W, zq_X, zq_Y, zq_Z, zq_0, zq_1, zq_2, zq_3, zq_4, zq_5, ↓zq_6, ↓zq_7, ↓zq_8, ↓zq_9, ↓zq_aa, zq_ab, zq_ac, zq_ad, zq_ae, zq_af, zq_ag, ↓zq_ah, ↓zq_ai, ↓zq_aj, zq_ak, ↓zq_al, ↓zq_am, e_b1, e_b2, x_o1, x_o2]
  | succ m ih =>
    intro i M hm
    have q : (i : Int) < 120 := by omega
    have h0 : (0 : Int) ≤ (i : Int) := by omega
    have st : e_st 100 [a, (i : Int), 0] M = some (e_up M a.toNat i 0) := r_st (n := 120) ha.1 ha.2.1 ha.2.2 h0 q
    obtain ⟨M', k1, c1, c2⟩ := ih (i + 1) (e_up M a.toNat i 0) (by omega)
    have w1 : e_w ((i : Int) + 1) = ((i + 1 : Nat) : Int) := by
      clear st k1 c1 c2
      exact (a_w_id (by omega) (by omega)).trans (by omega)
    refine ⟨M', ?_, fun id k h => ?_, fun k h1 h2 => ?_⟩
    · rw [← k1]
      generalize ((i + 1 : Nat) : Int) = y at w1
      clear k1 c1 c2 ih
      rw [E_V_eq]
      show e_tv E_C (E_V 270) e_t270_5 [a, 0, (i : Int), 120] M = _
      unfold e_t270_5
      simp [zq_a, zq_b, zq_c, zq_d, zq_e, zq_f, zq_g, zq_h, zq_i, zq_j, zq_k, zq_l, zq_m, zq_n, zq_o, zq_p, zq_q, zq_r, zq_s, zq_t, zq_u, zq_v, zq_w, zq_x, zq_y, zq_z, zq_A, zq_B, zq_C, zq_D, zq_E, zq_F, zq_G, zq_H, zq_I, zq_J, zq_K, zq_L, ↓zq_M, ↓zq_N, ↓zq_O, ↓zq_P, ↓zq_Q, ↓zq_R, zq_S, zq_T, zq_U, zq_V, zq_W, zq_X, zq_Y, zq_Z, zq_0, zq_1, zq_2, zq_3, zq_4, zq_5, ↓zq_6, ↓zq_7, ↓zq_8, ↓zq_9, ↓zq_aa, zq_ab, zq_ac, zq_ad, zq_ae, zq_af, zq_ag, ↓zq_ah, ↓zq_ai, ↓zq_aj, zq_ak, ↓zq_al, ↓zq_am, e_b1, e_b2, x_o1, x_o2, q, st, w1]
    · rw [c1 id k (by omega)]
      exact c_up_n (by omega)
    · by_cases e : k = i
      · subst e
        rw [c1 _ _ (by omega)]
        exact c_up_s
      · exact c2 k (by omega) h2
theorem h_270 {a : Int} (ha : 8 ≤ a ∧ a.toNat < e_N ∧ e_sh a.toNat = (100, 120)) (M : EM) : ∃ M', E_C 270 [a, 0] M = some (0, M') ∧ (∀ id k, ¬ (id = a.toNat ∧ k < 120) → M' id k = M id k) ∧ ∀ k, k < 120 → M' a.toNat k = 0 := by
  obtain ⟨M', k1, c1, c2⟩ := h_270l ha 120 0 M (by decide)
  have ln : e_op 63 [a] M = some 120 := p_len (n := 120) ⟨ha.1, ha.2.1, by rw [ha.2.2]; decide, by rw [ha.2.2]⟩ M
  refine ⟨M', ?_, fun id k h => c1 id k (by omega), fun k h => c2 k (Nat.zero_le _) h⟩
  have k1' : E_V 270 5 [a, 0, 0, 120] M = some (0, M') := k1
  rw [r_ent (show e_rok 270 [a, 0] = true from rfl)]
  show e_tv E_C (E_V 270) e_t270_0 [a, 0, 0, 0] M = _
  unfold e_t270_0
  simp [zq_a, zq_b, zq_c, zq_d, zq_e, zq_f, zq_g, zq_h, zq_i, zq_j, zq_k, zq_l, zq_m, zq_n, zq_o, zq_p, zq_q, zq_r, zq_s, zq_t, zq_u, zq_v, zq_w, zq_x, zq_y, zq_z, zq_A, zq_B, zq_C, zq_D, zq_E, zq_F, zq_G, zq_H, zq_I, zq_J, zq_K, zq_L, ↓zq_M, ↓zq_N, ↓zq_O, ↓zq_P, ↓zq_Q, ↓zq_R, zq_S, zq_T, zq_U, zq_V, zq_W, zq_X, zq_Y, zq_Z, zq_0, zq_1, zq_2, zq_3, zq_4, zq_5, ↓zq_6, ↓zq_7, ↓zq_8, ↓zq_9, ↓zq_aa, zq_ab, zq_ac, zq_ad, zq_ae, zq_af, zq_ag, ↓zq_ah, ↓zq_ai, ↓zq_aj, zq_ak, ↓zq_al, ↓zq_am, e_b1, e_b2, x_o1, x_o2, ln, k1']
theorem h_87 {h k n : Int} (hh : h ∈ a_SH) (M : EM) : ∃ M', E_C 87 [h, k, n] M = some (0, M') ∧ M' h.toNat 0 = 0 ∧ M' h.toNat 1 = 1 ∧ M' h.toNat 4 = k ∧ M' h.toNat 5 = n ∧ (∀ i, i < 120 → M' (h + 1).toNat i = 0) ∧ ∀ id j, ¬ (id = h.toNat ∧ (j = 0 ∨ j = 1 ∨ j = 4 ∨ j = 5)) → ¬ (id = (h + 1).toNat ∧ j < 120) → M' id j = M id j := by
  obtain ⟨s1, s2, s3, s4, s5, s6, s7⟩ := w_sh hh
  obtain ⟨M', k1, c1, c2⟩ := h_270 ⟨s2, s3, s4⟩ (e_up (e_up (e_up (e_up M h.toNat 0 0) h.toNat 1 1) h.toNat 4 k) h.toNat 5 n)
  have p0 : ∀ v M, e_pf 512 [h, v] M = some (e_up M h.toNat 0 v) := fun v M => c_pf s1 (by decide +kernel)
  have p1 : ∀ v M, e_pf 513 [h, v] M = some (e_up M h.toNat 1 v) := fun v M => c_pf s1 (by decide +kernel)
  have p4 : ∀ v M, e_pf 516 [h, v] M = some (e_up M h.toNat 4 v) := fun v M => c_pf s1 (by decide +kernel)
  have p5 : ∀ v M, e_pf 517 [h, v] M = some (e_up M h.toNat 5 v) := fun v M => c_pf s1 (by decide +kernel)
  have g6 : ∀ M, e_gf 518 [h] M = some (h + 1) := fun M => (c_gr s1 (by decide +kernel)).trans (congrArg some s5)
  have hne : h.toNat ≠ (h + 1).toNat := by omega
  refine ⟨M', ?_, ?_, ?_, ?_, ?_, c2, fun id j h1 h2 => ?_⟩
  · rw [r_ent (show e_rok 87 [h, k, n] = true from decide_eq_true s1)]
    show e_tv E_C (E_V 87) e_t87_0 [h, k, n] M = _
    unfold e_t87_0
    simp [zq_a, zq_b, zq_c, zq_d, zq_e, zq_f, zq_g, zq_h, zq_i, zq_j, zq_k, zq_l, zq_m, zq_n, zq_o, zq_p, zq_q, zq_r, zq_s, zq_t, zq_u, zq_v, zq_w, zq_x, zq_y, zq_z, zq_A, zq_B, zq_C, zq_D, zq_E, zq_F, zq_G, zq_H, zq_I, zq_J, zq_K, zq_L, ↓zq_M, ↓zq_N, ↓zq_O, ↓zq_P, ↓zq_Q, ↓zq_R, zq_S, zq_T, zq_U, zq_V, zq_W, zq_X, zq_Y, zq_Z, zq_0, zq_1, zq_2, zq_3, zq_4, zq_5, ↓zq_6, ↓zq_7, ↓zq_8, ↓zq_9, ↓zq_aa, zq_ab, zq_ac, zq_ad, zq_ae, zq_af, zq_ag, ↓zq_ah, ↓zq_ai, ↓zq_aj, zq_ak, ↓zq_al, ↓zq_am, e_b1, e_b2, x_o1, x_o2, p0, p1, p4, p5, g6, k1]
  · rw [c1 _ _ (fun e => hne e.1), c_up_n (by omega), c_up_n (by omega), c_up_n (by omega), c_up_s]
  · rw [c1 _ _ (fun e => hne e.1), c_up_n (by omega), c_up_n (by omega), c_up_s]
  · rw [c1 _ _ (fun e => hne e.1), c_up_n (by omega), c_up_s]
  · rw [c1 _ _ (fun e => hne e.1), c_up_s]
  · rw [c1 _ _ h2, c_up_n (by omega), c_up_n (by omega), c_up_n (by omega), c_up_n (by omega)]
/-- the class's row -/
def h_okr (d k n : Int) : Prop := (0 ≤ d ∧ d < 8) ∧ (0 ≤ k ∧ k ≤ 2) ∧ n ≤ 120
theorem h_140y {d k n s r : Int} {M M1 : EM} (hd : E_C 154 [8, d] M = some (s, M)) (hs : s ≠ -1) (k0 : 0 ≤ k) (k2 : k ≤ 2) (n1 : n ≤ 120) (n0 : 0 ≤ n) (h : E_C 87 [s, k, n] M = some (r, M1)) : E_C 140 [8, d, k, n] M = some (0, M1) := by
  have s0 : E_C 140 [8, d, k, n] M = e_tv E_C (E_V 140) e_t140_0 [8, d, k, n, 0] M := r_ent (u := 140) (as := [8, d, k, n]) (M := M) (decide_eq_true c_this)
  have a1 : ¬ k < 0 := by omega
  have a2 : ¬ 2 < k := by omega
  have a3 : ¬ 120 < n := by omega
  have a4 : ¬ n < 0 := by omega
  rw [s0]
  unfold e_t140_0
  simp [zq_a, zq_b, zq_c, zq_d, zq_e, zq_f, zq_g, zq_h, zq_i, zq_j, zq_k, zq_l, zq_m, zq_n, zq_o, zq_p, zq_q, zq_r, zq_s, zq_t, zq_u, zq_v, zq_w, zq_x, zq_y, zq_z, zq_A, zq_B, zq_C, zq_D, zq_E, zq_F, zq_G, zq_H, zq_I, zq_J, zq_K, zq_L, ↓zq_M, ↓zq_N, ↓zq_O, ↓zq_P, ↓zq_Q, ↓zq_R, zq_S, zq_T, zq_U, zq_V, zq_W, zq_X, zq_Y, zq_Z, zq_0, zq_1, zq_2, zq_3, zq_4, zq_5, ↓zq_6, ↓zq_7, ↓zq_8, ↓zq_9, ↓zq_aa, zq_ab, zq_ac, zq_ad, zq_ae, zq_af, zq_ag, ↓zq_ah, ↓zq_ai, ↓zq_aj, zq_ak, ↓zq_al, ↓zq_am, e_b1, e_b2, x_o1, x_o2, hd, hs, k0, k2, n1, n0, a1, a2, a3, a4, h]
theorem h_140n {d k n s z : Int} {M : EM} (hd : E_C 154 [8, d] M = some (s, M)) (h : s = -1 ∨ k < 0 ∨ 2 < k ∨ 120 < n ∨ n < 0) (hz : z = if s = -1 ∨ k < 0 ∨ 2 < k ∨ 120 < n then -1 else -14) : E_C 140 [8, d, k, n] M = some (z, M) := by
  have s0 : E_C 140 [8, d, k, n] M = e_tv E_C (E_V 140) e_t140_0 [8, d, k, n, 0] M := r_ent (u := 140) (as := [8, d, k, n]) (M := M) (decide_eq_true c_this)
  rw [s0]
  unfold e_t140_0
  by_cases q0 : s = -1
  · rw [if_pos (Or.inl q0)] at hz
    subst hz
    simp [zq_a, zq_b, zq_c, zq_d, zq_e, zq_f, zq_g, zq_h, zq_i, zq_j, zq_k, zq_l, zq_m, zq_n, zq_o, zq_p, zq_q, zq_r, zq_s, zq_t, zq_u, zq_v, zq_w, zq_x, zq_y, zq_z, zq_A, zq_B, zq_C, zq_D, zq_E, zq_F, zq_G, zq_H, zq_I, zq_J, zq_K, zq_L, ↓zq_M, ↓zq_N, ↓zq_O, ↓zq_P, ↓zq_Q, ↓zq_R, zq_S, zq_T, zq_U, zq_V, zq_W, zq_X, zq_Y, zq_Z, zq_0, zq_1, zq_2, zq_3, zq_4, zq_5, ↓zq_6, ↓zq_7, ↓zq_8, ↓zq_9, ↓zq_aa, zq_ab, zq_ac, zq_ad, zq_ae, zq_af, zq_ag, ↓zq_ah, ↓zq_ai, ↓zq_aj, zq_ak, ↓zq_al, ↓zq_am, e_b1, e_b2, x_o1, x_o2, hd, q0]
  · rcases x_le 0 k with ⟨q1, q1_n⟩ | ⟨q1, q1_n⟩
    · rcases x_le k 2 with ⟨q2, q2_n⟩ | ⟨q2, q2_n⟩
      · rcases x_le n 120 with ⟨q3, q3_n⟩ | ⟨q3, q3_n⟩
        · have q4 : n < 0 := by omega
          have q5 : ¬ 0 ≤ n := by omega
          rw [if_neg (by omega)] at hz
          subst hz
          simp [zq_a, zq_b, zq_c, zq_d, zq_e, zq_f, zq_g, zq_h, zq_i, zq_j, zq_k, zq_l, zq_m, zq_n, zq_o, zq_p, zq_q, zq_r, zq_s, zq_t, zq_u, zq_v, zq_w, zq_x, zq_y, zq_z, zq_A, zq_B, zq_C, zq_D, zq_E, zq_F, zq_G, zq_H, zq_I, zq_J, zq_K, zq_L, ↓zq_M, ↓zq_N, ↓zq_O, ↓zq_P, ↓zq_Q, ↓zq_R, zq_S, zq_T, zq_U, zq_V, zq_W, zq_X, zq_Y, zq_Z, zq_0, zq_1, zq_2, zq_3, zq_4, zq_5, ↓zq_6, ↓zq_7, ↓zq_8, ↓zq_9, ↓zq_aa, zq_ab, zq_ac, zq_ad, zq_ae, zq_af, zq_ag, ↓zq_ah, ↓zq_ai, ↓zq_aj, zq_ak, ↓zq_al, ↓zq_am, e_b1, e_b2, x_o1, x_o2, hd, q0, q1, q1_n, q2, q2_n, q3, q3_n, q4, q5]
        · rw [if_pos (by omega)] at hz
          subst hz
          simp [zq_a, zq_b, zq_c, zq_d, zq_e, zq_f, zq_g, zq_h, zq_i, zq_j, zq_k, zq_l, zq_m, zq_n, zq_o, zq_p, zq_q, zq_r, zq_s, zq_t, zq_u, zq_v, zq_w, zq_x, zq_y, zq_z, zq_A, zq_B, zq_C, zq_D, zq_E, zq_F, zq_G, zq_H, zq_I, zq_J, zq_K, zq_L, ↓zq_M, ↓zq_N, ↓zq_O, ↓zq_P, ↓zq_Q, ↓zq_R, zq_S, zq_T, zq_U, zq_V, zq_W, zq_X, zq_Y, zq_Z, zq_0, zq_1, zq_2, zq_3, zq_4, zq_5, ↓zq_6, ↓zq_7, ↓zq_8, ↓zq_9, ↓zq_aa, zq_ab, zq_ac, zq_ad, zq_ae, zq_af, zq_ag, ↓zq_ah, ↓zq_ai, ↓zq_aj, zq_ak, ↓zq_al, ↓zq_am, e_b1, e_b2, x_o1, x_o2, hd, q0, q1, q1_n, q2, q2_n, q3, q3_n]
      · rw [if_pos (by omega)] at hz
        subst hz
        simp [zq_a, zq_b, zq_c, zq_d, zq_e, zq_f, zq_g, zq_h, zq_i, zq_j, zq_k, zq_l, zq_m, zq_n, zq_o, zq_p, zq_q, zq_r, zq_s, zq_t, zq_u, zq_v, zq_w, zq_x, zq_y, zq_z, zq_A, zq_B, zq_C, zq_D, zq_E, zq_F, zq_G, zq_H, zq_I, zq_J, zq_K, zq_L, ↓zq_M, ↓zq_N, ↓zq_O, ↓zq_P, ↓zq_Q, ↓zq_R, zq_S, zq_T, zq_U, zq_V, zq_W, zq_X, zq_Y, zq_Z, zq_0, zq_1, zq_2, zq_3, zq_4, zq_5, ↓zq_6, ↓zq_7, ↓zq_8, ↓zq_9, ↓zq_aa, zq_ab, zq_ac, zq_ad, zq_ae, zq_af, zq_ag, ↓zq_ah, ↓zq_ai, ↓zq_aj, zq_ak, ↓zq_al, ↓zq_am, e_b1, e_b2, x_o1, x_o2, hd, q0, q1, q1_n, q2, q2_n]
    · rw [if_pos (by omega)] at hz
      subst hz
      simp [zq_a, zq_b, zq_c, zq_d, zq_e, zq_f, zq_g, zq_h, zq_i, zq_j, zq_k, zq_l, zq_m, zq_n, zq_o, zq_p, zq_q, zq_r, zq_s, zq_t, zq_u, zq_v, zq_w, zq_x, zq_y, zq_z, zq_A, zq_B, zq_C, zq_D, zq_E, zq_F, zq_G, zq_H, zq_I, zq_J, zq_K, zq_L, ↓zq_M, ↓zq_N, ↓zq_O, ↓zq_P, ↓zq_Q, ↓zq_R, zq_S, zq_T, zq_U, zq_V, zq_W, zq_X, zq_Y, zq_Z, zq_0, zq_1, zq_2, zq_3, zq_4, zq_5, ↓zq_6, ↓zq_7, ↓zq_8, ↓zq_9, ↓zq_aa, zq_ab, zq_ac, zq_ad, zq_ae, zq_af, zq_ag, ↓zq_ah, ↓zq_ai, ↓zq_aj, zq_ak, ↓zq_al, ↓zq_am, e_b1, e_b2, x_o1, x_o2, hd, q0, q1, q1_n]
/-- the reference's row -/
theorem h_259s {d k n i y : Int} {na : Nat} {M : EM} (q : i < 120) (w1 : e_w (i + 1) = y) (w2 : e_w (120 * d) = 120 * d) (w3 : e_w (120 * d + i) = 120 * d + i) (st : e_st 100 [198, 120 * d + i, 0] M = some (e_up M 198 na 0)) : E_V 259 58 [192, d, k, n, i] M = E_V 259 58 [192, d, k, n, y] (e_up M 198 na 0) := by
  rw [E_V_eq]
  show e_tv E_C (E_V 259) e_t259_58 [192, d, k, n, i] M = _
  unfold e_t259_58
  simp [zq_a, zq_b, zq_c, zq_d, zq_e, zq_f, zq_g, zq_h, zq_i, zq_j, zq_k, zq_l, zq_m, zq_n, zq_o, zq_p, zq_q, zq_r, zq_s, zq_t, zq_u, zq_v, zq_w, zq_x, zq_y, zq_z, zq_A, zq_B, zq_C, zq_D, zq_E, zq_F, zq_G, zq_H, zq_I, zq_J, zq_K, zq_L, ↓zq_M, ↓zq_N, ↓zq_O, ↓zq_P, ↓zq_Q, ↓zq_R, zq_S, zq_T, zq_U, zq_V, zq_W, zq_X, zq_Y, zq_Z, zq_0, zq_1, zq_2, zq_3, zq_4, zq_5, ↓zq_6, ↓zq_7, ↓zq_8, ↓zq_9, ↓zq_aa, zq_ab, zq_ac, zq_ad, zq_ae, zq_af, zq_ag, ↓zq_ah, ↓zq_ai, ↓zq_aj, zq_ak, ↓zq_al, ↓zq_am, e_b1, e_b2, x_o1, x_o2, r_O5, q, w1, w2, w3, st]
theorem h_259l {d k n : Int} (hd : 0 ≤ d ∧ d < 8) : ∀ (m i : Nat) (M : EM), i + m = 120 → ∃ M', E_V 259 58 [192, d, k, n, (i : Int)] M = some (0, M') ∧ (∀ id j, ¬ (id = 198 ∧ 120 * d.toNat + i ≤ j ∧ j < 120 * d.toNat + 120) → M' id j = M id j) ∧ ∀ j, i ≤ j → j < 120 → M' 198 (120 * d.toNat + j) = 0 := by
  intro m
  induction m with
  | zero =>
    intro i M hm
    have e : i = 120 := by omega
    subst e
    refine ⟨M, ?_, fun _ _ _ => rfl, fun k h1 h2 => by omega⟩
    rw [E_V_eq]
    show e_tv E_C (E_V 259) e_t259_58 [192, d, k, n, ((120 : Nat) : Int)] M = _
    unfold e_t259_58
    simp [zq_a, zq_b, zq_c, zq_d, zq_e, zq_f, zq_g, zq_h, zq_i, zq_j, zq_k, zq_l, zq_m, zq_n, zq_o, zq_p, zq_q, zq_r, zq_s, zq_t, zq_u, zq_v, zq_w, zq_x, zq_y, zq_z, zq_A, zq_B, zq_C, zq_D, zq_E, zq_F, zq_G, zq_H, zq_I, zq_J, zq_K, zq_L, ↓zq_M, ↓zq_N, ↓zq_O, ↓zq_P, ↓zq_Q, ↓zq_R, zq_S, zq_T, zq_U, zq_V, zq_W, zq_X, zq_Y, zq_Z, zq_0, zq_1, zq_2, zq_3, zq_4, zq_5, ↓zq_6, ↓zq_7, ↓zq_8, ↓zq_9, ↓zq_aa, zq_ab, zq_ac, zq_ad, zq_ae, zq_af, zq_ag, ↓zq_ah, ↓zq_ai, ↓zq_aj, zq_ak, ↓zq_al, ↓zq_am, e_b1, e_b2, x_o1, x_o2]
  | succ m ih =>
    intro i M hm
    have q : (i : Int) < 120 := by omega
    have b1 : 0 ≤ 120 * d + (i : Int) ∧ 120 * d + (i : Int) < 960 := by omega
    have e1 : (120 * d + (i : Int)).toNat = 120 * d.toNat + i := by omega
    have st : e_st 100 [198, 120 * d + (i : Int), 0] M = some (e_up M 198 (120 * d.toNat + i) 0) := (r_st (n := 960) (by decide) (by decide +kernel) (by decide +kernel) b1.1 b1.2).trans (by rw [e1]; rfl)
    obtain ⟨M', k1, c1, c2⟩ := ih (i + 1) (e_up M 198 (120 * d.toNat + i) 0) (by omega)
    have w : e_w ((i : Int) + 1) = ((i + 1 : Nat) : Int) ∧ e_w (120 * d) = 120 * d ∧ e_w (120 * d + (i : Int)) = 120 * d + (i : Int) := by
      clear st k1 c1 c2 ih e1
      refine ⟨(a_w_id (by omega) (by omega)).trans (by omega), ?_, ?_⟩ <;> exact a_w_id (by omega) (by omega)
    refine ⟨M', ?_, fun id j h => ?_, fun j h1 h2 => ?_⟩
    · rw [← k1]
      obtain ⟨w1, w2, w3⟩ := w
      exact h_259s q w1 w2 w3 st
    · rw [c1 id j (by omega)]
      exact c_up_n (by omega)
    · by_cases e : j = i
      · subst e
        rw [c1 _ _ (by omega)]
        exact c_up_s
      · exact c2 j (by omega) h2
def h_rz (d k n : Int) : Int := if 0 ≤ d ∧ d < 8 ∧ 0 ≤ k ∧ k ≤ 2 ∧ n ≤ 120 then (if n < 0 then -14 else 0) else -1
theorem h_is {d : Int} (M : EM) : E_C 173 [d] M = some (if 0 ≤ d ∧ d < 8 then 1 else 0, M) := by
  by_cases hd : 0 ≤ d ∧ d < 8
  · rw [if_pos hd]
    have k := r_in1 (M := M) (x := d) (lo := 0) (hi := 7) ⟨hd.1, by omega⟩
    rw [r_ent (show e_rok 173 [d] = true from rfl)]
    show e_tv E_C (E_V 173) e_t173_0 [d] M = _
    unfold e_t173_0
    simp [zq_a, zq_b, zq_c, zq_d, zq_e, zq_f, zq_g, zq_h, zq_i, zq_j, zq_k, zq_l, zq_m, zq_n, zq_o, zq_p, zq_q, zq_r, zq_s, zq_t, zq_u, zq_v, zq_w, zq_x, zq_y, zq_z, zq_A, zq_B, zq_C, zq_D, zq_E, zq_F, zq_G, zq_H, zq_I, zq_J, zq_K, zq_L, ↓zq_M, ↓zq_N, ↓zq_O, ↓zq_P, ↓zq_Q, ↓zq_R, zq_S, zq_T, zq_U, zq_V, zq_W, zq_X, zq_Y, zq_Z, zq_0, zq_1, zq_2, zq_3, zq_4, zq_5, ↓zq_6, ↓zq_7, ↓zq_8, ↓zq_9, ↓zq_aa, zq_ab, zq_ac, zq_ad, zq_ae, zq_af, zq_ag, ↓zq_ah, ↓zq_ai, ↓zq_aj, zq_ak, ↓zq_al, ↓zq_am, e_b1, e_b2, x_o1, x_o2, k]
  · rw [if_neg hd]
    have k := r_in0 (M := M) (x := d) (lo := 0) (hi := 7) (fun e => hd ⟨e.1, by omega⟩)
    rw [r_ent (show e_rok 173 [d] = true from rfl)]
    show e_tv E_C (E_V 173) e_t173_0 [d] M = _
    unfold e_t173_0
    simp [zq_a, zq_b, zq_c, zq_d, zq_e, zq_f, zq_g, zq_h, zq_i, zq_j, zq_k, zq_l, zq_m, zq_n, zq_o, zq_p, zq_q, zq_r, zq_s, zq_t, zq_u, zq_v, zq_w, zq_x, zq_y, zq_z, zq_A, zq_B, zq_C, zq_D, zq_E, zq_F, zq_G, zq_H, zq_I, zq_J, zq_K, zq_L, ↓zq_M, ↓zq_N, ↓zq_O, ↓zq_P, ↓zq_Q, ↓zq_R, zq_S, zq_T, zq_U, zq_V, zq_W, zq_X, zq_Y, zq_Z, zq_0, zq_1, zq_2, zq_3, zq_4, zq_5, ↓zq_6, ↓zq_7, ↓zq_8, ↓zq_9, ↓zq_aa, zq_ab, zq_ac, zq_ad, zq_ae, zq_af, zq_ag, ↓zq_ah, ↓zq_ai, ↓zq_aj, zq_ak, ↓zq_al, ↓zq_am, e_b1, e_b2, x_o1, x_o2, k]
theorem h_259n {d k n : Int} {M : EM} (h : ¬ (0 ≤ d ∧ d < 8 ∧ 0 ≤ k ∧ k ≤ 2 ∧ n ≤ 120 ∧ 0 ≤ n)) : E_C 259 [192, d, k, n] M = some (h_rz d k n, M) := by
  have i0 := h_is (d := d) M
  unfold h_rz
  by_cases hd : 0 ≤ d ∧ d < 8
  · rw [if_pos hd] at i0
    by_cases hk : 0 ≤ k ∧ k ≤ 2
    · have i1 := r_in1 (M := M) (x := k) (lo := 0) (hi := 2) hk
      rcases x_le n 120 with ⟨q3, q3_n⟩ | ⟨q3, q3_n⟩
      · have q4 : n < 0 := by omega
        have q5 : ¬ 0 ≤ n := by omega
        rw [if_pos ⟨hd.1, hd.2, hk.1, hk.2, q3⟩, if_pos q4]
        rw [r_ent (show e_rok 259 [192, d, k, n] = true from decide_eq_true r_ref)]
        show e_tv E_C (E_V 259) e_t259_0 [192, d, k, n, 0] M = _
        unfold e_t259_0
        simp [zq_a, zq_b, zq_c, zq_d, zq_e, zq_f, zq_g, zq_h, zq_i, zq_j, zq_k, zq_l, zq_m, zq_n, zq_o, zq_p, zq_q, zq_r, zq_s, zq_t, zq_u, zq_v, zq_w, zq_x, zq_y, zq_z, zq_A, zq_B, zq_C, zq_D, zq_E, zq_F, zq_G, zq_H, zq_I, zq_J, zq_K, zq_L, ↓zq_M, ↓zq_N, ↓zq_O, ↓zq_P, ↓zq_Q, ↓zq_R, zq_S, zq_T, zq_U, zq_V, zq_W, zq_X, zq_Y, zq_Z, zq_0, zq_1, zq_2, zq_3, zq_4, zq_5, ↓zq_6, ↓zq_7, ↓zq_8, ↓zq_9, ↓zq_aa, zq_ab, zq_ac, zq_ad, zq_ae, zq_af, zq_ag, ↓zq_ah, ↓zq_ai, ↓zq_aj, zq_ak, ↓zq_al, ↓zq_am, e_b1, e_b2, x_o1, x_o2, i0, i1, q3, q3_n, q4, q5]
      · rw [if_neg (fun e => q3 e.2.2.2.2)]
        rw [r_ent (show e_rok 259 [192, d, k, n] = true from decide_eq_true r_ref)]
        show e_tv E_C (E_V 259) e_t259_0 [192, d, k, n, 0] M = _
        unfold e_t259_0
        simp [zq_a, zq_b, zq_c, zq_d, zq_e, zq_f, zq_g, zq_h, zq_i, zq_j, zq_k, zq_l, zq_m, zq_n, zq_o, zq_p, zq_q, zq_r, zq_s, zq_t, zq_u, zq_v, zq_w, zq_x, zq_y, zq_z, zq_A, zq_B, zq_C, zq_D, zq_E, zq_F, zq_G, zq_H, zq_I, zq_J, zq_K, zq_L, ↓zq_M, ↓zq_N, ↓zq_O, ↓zq_P, ↓zq_Q, ↓zq_R, zq_S, zq_T, zq_U, zq_V, zq_W, zq_X, zq_Y, zq_Z, zq_0, zq_1, zq_2, zq_3, zq_4, zq_5, ↓zq_6, ↓zq_7, ↓zq_8, ↓zq_9, ↓zq_aa, zq_ab, zq_ac, zq_ad, zq_ae, zq_af, zq_ag, ↓zq_ah, ↓zq_ai, ↓zq_aj, zq_ak, ↓zq_al, ↓zq_am, e_b1, e_b2, x_o1, x_o2, i0, i1, q3, q3_n]
    · have i1 := r_in0 (M := M) (x := k) (lo := 0) (hi := 2) hk
      rw [if_neg (fun e => hk ⟨e.2.2.1, e.2.2.2.1⟩)]
      rw [r_ent (show e_rok 259 [192, d, k, n] = true from decide_eq_true r_ref)]
      show e_tv E_C (E_V 259) e_t259_0 [192, d, k, n, 0] M = _
      unfold e_t259_0
      simp [zq_a, zq_b, zq_c, zq_d, zq_e, zq_f, zq_g, zq_h, zq_i, zq_j, zq_k, zq_l, zq_m, zq_n, zq_o, zq_p, zq_q, zq_r, zq_s, zq_t, zq_u, zq_v, zq_w, zq_x, zq_y, zq_z, zq_A, zq_B, zq_C, zq_D, zq_E, zq_F, zq_G, zq_H, zq_I, zq_J, zq_K, zq_L, ↓zq_M, ↓zq_N, ↓zq_O, ↓zq_P, ↓zq_Q, ↓zq_R, zq_S, zq_T, zq_U, zq_V, zq_W, zq_X, zq_Y, zq_Z, zq_0, zq_1, zq_2, zq_3, zq_4, zq_5, ↓zq_6, ↓zq_7, ↓zq_8, ↓zq_9, ↓zq_aa, zq_ab, zq_ac, zq_ad, zq_ae, zq_af, zq_ag, ↓zq_ah, ↓zq_ai, ↓zq_aj, zq_ak, ↓zq_al, ↓zq_am, e_b1, e_b2, x_o1, x_o2, i0, i1]
  · rw [if_neg hd] at i0
    rw [if_neg (fun e => hd ⟨e.1, e.2.1⟩)]
    rw [r_ent (show e_rok 259 [192, d, k, n] = true from decide_eq_true r_ref)]
    show e_tv E_C (E_V 259) e_t259_0 [192, d, k, n, 0] M = _
    unfold e_t259_0
    simp [zq_a, zq_b, zq_c, zq_d, zq_e, zq_f, zq_g, zq_h, zq_i, zq_j, zq_k, zq_l, zq_m, zq_n, zq_o, zq_p, zq_q, zq_r, zq_s, zq_t, zq_u, zq_v, zq_w, zq_x, zq_y, zq_z, zq_A, zq_B, zq_C, zq_D, zq_E, zq_F, zq_G, zq_H, zq_I, zq_J, zq_K, zq_L, ↓zq_M, ↓zq_N, ↓zq_O, ↓zq_P, ↓zq_Q, ↓zq_R, zq_S, zq_T, zq_U, zq_V, zq_W, zq_X, zq_Y, zq_Z, zq_0, zq_1, zq_2, zq_3, zq_4, zq_5, ↓zq_6, ↓zq_7, ↓zq_8, ↓zq_9, ↓zq_aa, zq_ab, zq_ac, zq_ad, zq_ae, zq_af, zq_ag, ↓zq_ah, ↓zq_ai, ↓zq_aj, zq_ak, ↓zq_al, ↓zq_am, e_b1, e_b2, x_o1, x_o2, i0]
theorem h_259y {d k n : Int} {m : Nat} {M : EM} {o : EO} (hm : d = m) (hd : m < 8) (hk : 0 ≤ k ∧ k ≤ 2) (n1 : n ≤ 120) (n0 : 0 ≤ n) (h : E_V 259 58 [192, d, k, n, 0] (e_up (e_up (e_up M 195 m 2) 196 m k) 197 m n) = o) : E_C 259 [192, d, k, n] M = o := by
  have i0 := h_is (d := d) M
  rw [if_pos (by omega)] at i0
  have i1 := r_in1 (M := M) (x := k) (lo := 0) (hi := 2) hk
  have a3 : ¬ 120 < n := by omega
  have a4 : ¬ n < 0 := by omega
  have b : 0 ≤ d ∧ d < 8 := by omega
  have e : d.toNat = m := by omega
  have s1 : ∀ v M, e_st 100 [195, d, v] M = some (e_up M 195 m v) := fun v M => (r_st (n := 8) (by decide) (by decide +kernel) (by decide +kernel) b.1 b.2).trans (by rw [e]; rfl)
  have s2 : ∀ v M, e_st 100 [196, d, v] M = some (e_up M 196 m v) := fun v M => (r_st (n := 8) (by decide) (by decide +kernel) (by decide +kernel) b.1 b.2).trans (by rw [e]; rfl)
  have s3 : ∀ v M, e_st 100 [197, d, v] M = some (e_up M 197 m v) := fun v M => (r_st (n := 8) (by decide) (by decide +kernel) (by decide +kernel) b.1 b.2).trans (by rw [e]; rfl)
  rw [r_ent (show e_rok 259 [192, d, k, n] = true from decide_eq_true r_ref)]
  show e_tv E_C (E_V 259) e_t259_0 [192, d, k, n, 0] M = _
  unfold e_t259_0
  simp [zq_a, zq_b, zq_c, zq_d, zq_e, zq_f, zq_g, zq_h, zq_i, zq_j, zq_k, zq_l, zq_m, zq_n, zq_o, zq_p, zq_q, zq_r, zq_s, zq_t, zq_u, zq_v, zq_w, zq_x, zq_y, zq_z, zq_A, zq_B, zq_C, zq_D, zq_E, zq_F, zq_G, zq_H, zq_I, zq_J, zq_K, zq_L, ↓zq_M, ↓zq_N, ↓zq_O, ↓zq_P, ↓zq_Q, ↓zq_R, zq_S, zq_T, zq_U, zq_V, zq_W, zq_X, zq_Y, zq_Z, zq_0, zq_1, zq_2, zq_3, zq_4, zq_5, ↓zq_6, ↓zq_7, ↓zq_8, ↓zq_9, ↓zq_aa, zq_ab, zq_ac, zq_ad, zq_ae, zq_af, zq_ag, ↓zq_ah, ↓zq_ai, ↓zq_aj, zq_ak, ↓zq_al, ↓zq_am, e_b1, e_b2, x_o1, x_o2, r_O2, r_O3, r_O4, i0, i1, n1, n0, a3, a4, s1, s2, s3, h]
/-- one SHELF is new -/
theorem h_S_set {M M' : EM} (hS : h_S M) {m : Nat} (new : (M' 195 m = 0 ∧ M' (146 + 2 * m) 0 = 0 ∧ M' (146 + 2 * m) 1 = 0) ∨ (M' 195 m = 1 ∧ M' (146 + 2 * m) 0 = 1 ∧ M' (146 + 2 * m) 1 = 0) ∨ (M' 195 m = 2 ∧ M' (146 + 2 * m) 0 = 0 ∧ M' (146 + 2 * m) 1 = 1 ∧ M' (146 + 2 * m) 4 = M' 196 m ∧ M' (146 + 2 * m) 5 = M' 197 m ∧ ∀ i, i < 120 → M' (147 + 2 * m) i = M' 198 (120 * m + i))) (old : ∀ d : Nat, d < 8 → d ≠ m → M' 195 d = M 195 d ∧ M' 196 d = M 196 d ∧ M' 197 d = M 197 d ∧ M' (146 + 2 * d) 0 = M (146 + 2 * d) 0 ∧ M' (146 + 2 * d) 1 = M (146 + 2 * d) 1 ∧ M' (146 + 2 * d) 4 = M (146 + 2 * d) 4 ∧ M' (146 + 2 * d) 5 = M (146 + 2 * d) 5 ∧ ∀ i, i < 120 → M' (147 + 2 * d) i = M (147 + 2 * d) i ∧ M' 198 (120 * d + i) = M 198 (120 * d + i)) : h_S M' := by
  intro d hd
  by_cases e : d = m
  · subst e
    exact new
  · obtain ⟨a1, a2, a3, a4, a5, a6, a7, a8⟩ := old d hd e
    rw [a1, a2, a3, a4, a5, a6, a7]
    rcases hS d hd with h | h | ⟨b1, b2, b3, b4, b5, b6⟩
    · exact Or.inl h
    · exact Or.inr (Or.inl h)
    · exact Or.inr (Or.inr ⟨b1, b2, b3, b4, b5, fun i hi => by rw [(a8 i hi).1, (a8 i hi).2]; exact b6 i hi⟩)
theorem h_row {d k n r1 r2 : Int} {M M1 M2 : EM} (hS : h_S M) (k1 : E_C 140 [8, d, k, n] M = some (r1, M1)) (k2 : E_C 259 [192, d, k, n] M1 = some (r2, M2)) : r1 = r2 ∧ h_S M2 := by
  by_cases hd : 0 ≤ d ∧ d < 8
  · obtain ⟨m, hm⟩ : ∃ m : Nat, d = m := ⟨d.toNat, by omega⟩
    have m8 : m < 8 := by omega
    have hh := (h_gr145 m8).2
    have c0 : E_C 154 [8, d] M = some (((146 + 2 * m : Nat) : Int), M) := by
      rw [hm]
      exact h_154a (by omega) (by omega) (h_rd145 m8 M)
    have hs : ((146 + 2 * m : Nat) : Int) ≠ -1 := by omega
    by_cases q : (0 ≤ k ∧ k ≤ 2) ∧ n ≤ 120 ∧ 0 ≤ n
    · obtain ⟨q1, q2, q3⟩ := q
      obtain ⟨N, n1, n2, n3, n4, n5, n6, n7⟩ := h_87 (k := k) (n := n) hh M
      rw [Int.toNat_natCast] at n2 n3 n4 n5 n7
      rw [show (((146 + 2 * m : Nat) : Int) + 1).toNat = 147 + 2 * m by omega] at n6 n7
      have e1 := Prod.mk.inj (Option.some.inj (k1.symm.trans (h_140y c0 hs q1.1 q1.2 q2 q3 n1)))
      obtain ⟨e1, e2⟩ := e1
      subst e2
      obtain ⟨M', g1, g2, g3⟩ := h_259l (d := d) (k := k) (n := n) hd 120 0 (e_up (e_up (e_up M1 195 m 2) 196 m k) 197 m n) (by decide)
      have g1' : E_V 259 58 [192, d, k, n, 0] (e_up (e_up (e_up M1 195 m 2) 196 m k) 197 m n) = some (0, M') := g1
      have e3 := Prod.mk.inj (Option.some.inj (k2.symm.trans (h_259y hm m8 q1 q2 q3 g1')))
      obtain ⟨e3, e4⟩ := e3
      subst e4
      rw [show d.toNat = m by omega] at g2 g3
      have z : ∀ id j, id ≠ 195 → id ≠ 196 → id ≠ 197 → id ≠ 198 → M2 id j = M1 id j := fun id j a b c e => by
        rw [g2 id j (fun h => e h.1), c_up_n (fun h => c h.1), c_up_n (fun h => b h.1), c_up_n (fun h => a h.1)]
      have z5 : ∀ j, j ≠ m → M2 195 j = M1 195 j ∧ M2 196 j = M1 196 j ∧ M2 197 j = M1 197 j := fun j hj => by
        refine ⟨?_, ?_, ?_⟩
        · rw [g2 _ _ (by omega), c_up_n (by omega), c_up_n (by omega), c_up_n (by omega)]
        · rw [g2 _ _ (by omega), c_up_n (by omega), c_up_n (by omega), c_up_n (by omega)]
        · rw [g2 _ _ (by omega), c_up_n (by omega), c_up_n (by omega), c_up_n (by omega)]
      refine ⟨e1.trans e3.symm, h_S_set (m := m) hS (Or.inr (Or.inr ⟨?_, ?_, ?_, ?_, ?_, fun i hi => ?_⟩)) (fun d' hd' hne => ?_)⟩
      · rw [g2 _ _ (by omega), c_up_n (by omega), c_up_n (by omega), c_up_s]
      · rw [z _ _ (by omega) (by omega) (by omega) (by omega)]; exact n2
      · rw [z _ _ (by omega) (by omega) (by omega) (by omega)]; exact n3
      · rw [z _ _ (by omega) (by omega) (by omega) (by omega), n4, g2 _ _ (by omega), c_up_n (by omega), c_up_s]
      · rw [z _ _ (by omega) (by omega) (by omega) (by omega), n5, g2 _ _ (by omega), c_up_s]
      · rw [z _ _ (by omega) (by omega) (by omega) (by omega), n6 i hi, g3 i (Nat.zero_le _) hi]
      · have f : ∀ id j, (id = 146 + 2 * d' ∨ id = 147 + 2 * d') → M2 id j = M id j := fun id j h => by
          rw [z _ _ (by omega) (by omega) (by omega) (by omega)]
          exact n7 _ _ (by omega) (by omega)
        have f2 : ∀ id j, 195 ≤ id → M1 id j = M id j := fun id j h => n7 _ _ (by omega) (by omega)
        obtain ⟨y1, y2, y3⟩ := z5 d' hne
        refine ⟨y1.trans (f2 _ _ (by decide)), y2.trans (f2 _ _ (by decide)), y3.trans (f2 _ _ (by decide)), f _ _ (Or.inl rfl), f _ _ (Or.inl rfl), f _ _ (Or.inl rfl), f _ _ (Or.inl rfl), fun i hi => ⟨f _ _ (Or.inr rfl), ?_⟩⟩
        rw [g2 _ _ (by omega), c_up_n (by omega), c_up_n (by omega), c_up_n (by omega)]
        exact f2 _ _ (by decide)
    · have e1 := Prod.mk.inj (Option.some.inj (k1.symm.trans (h_140n c0 (by omega) rfl)))
      obtain ⟨e1, e2⟩ := e1
      subst e2
      have e3 := Prod.mk.inj (Option.some.inj (k2.symm.trans (h_259n (by omega))))
      refine ⟨?_, by rw [e3.2]; exact hS⟩
      rw [e1, e3.1]
      unfold h_rz
      by_cases c : 0 ≤ d ∧ d < 8 ∧ 0 ≤ k ∧ k ≤ 2 ∧ n ≤ 120
      · have c2 : ¬ (((146 + 2 * m : Nat) : Int) = -1 ∨ k < 0 ∨ 2 < k ∨ 120 < n) := by omega
        have c3 : n < 0 := by omega
        rw [if_neg c2, if_pos c, if_pos c3]
      · have c2 : ((146 + 2 * m : Nat) : Int) = -1 ∨ k < 0 ∨ 2 < k ∨ 120 < n := by omega
        rw [if_pos c2, if_neg c]
  · have c0 : E_C 154 [8, d] M = some (-1, M) := h_154n hd
    have e1 := Prod.mk.inj (Option.some.inj (k1.symm.trans (h_140n c0 (Or.inl rfl) rfl)))
    obtain ⟨e1, e2⟩ := e1
    subst e2
    have e3 := Prod.mk.inj (Option.some.inj (k2.symm.trans (h_259n (fun e => hd ⟨e.1, e.2.1⟩))))
    refine ⟨?_, by rw [e3.2]; exact hS⟩
    rw [e1, e3.1, if_pos (Or.inl rfl)]
    unfold h_rz
    rw [if_neg (fun e => hd ⟨e.1, e.2.1⟩)]
end
section
/-! SHELVES: put -/
theorem h_88 {h v x1 x2 z : Int} (hh : h ∈ a_SH) {M : EM} (b24 : e_b1 24 v = some x1) (b25 : e_b1 25 v = some x2) (hz : z = if M h.toNat 4 = 0 then x1 else if M h.toNat 4 = 1 then x2 else v) : E_C 88 [h, v] M = some (z, M) := by
  obtain ⟨s1, -⟩ := w_sh hh
  obtain ⟨-, -, f4, -⟩ := h_sf hh M
  rw [r_ent (show e_rok 88 [h, v] = true from decide_eq_true s1)]
  show e_tv E_C (E_V 88) e_t88_0 [h, v] M = _
  unfold e_t88_0
  generalize M h.toNat 4 = s at f4 hz
  have b46 : ∀ a, e_b1 46 a = some (if a = 0 then 1 else 0) := fun _ => rfl
  have b47 : ∀ a, e_b1 47 a = some (if a ≠ 0 then 1 else 0) := fun _ => rfl
  by_cases q : s = 0
  · rw [if_pos q] at hz
    subst hz
    simp [zq_a, zq_b, zq_c, zq_d, zq_e, zq_f, zq_g, zq_h, zq_i, zq_j, zq_k, zq_l, zq_m, zq_n, zq_o, zq_p, zq_q, zq_r, zq_s, zq_t, zq_u, zq_v, zq_w, zq_x, zq_y, zq_z, zq_A, zq_B, zq_C, zq_D, zq_E, zq_F, zq_G, zq_H, zq_I, zq_J, zq_K, zq_L, ↓zq_M, ↓zq_N, ↓zq_O, ↓zq_P, ↓zq_Q, ↓zq_R, zq_S, zq_T, zq_U, zq_V, zq_W, zq_X, zq_Y, zq_Z, zq_0, zq_1, zq_2, zq_3, zq_4, zq_5, ↓zq_6, ↓zq_7, ↓zq_8, ↓zq_9, ↓zq_aa, zq_ab, zq_ac, zq_ad, zq_ae, zq_af, zq_ag, ↓zq_ah, ↓zq_ai, ↓zq_aj, zq_ak, ↓zq_al, ↓zq_am, b46, b47, b24, b25, e_b2, x_o1, x_o2, f4, q]
  · rw [if_neg q] at hz
    by_cases q1 : s = 1
    · rw [if_pos q1] at hz
      subst hz
      simp [zq_a, zq_b, zq_c, zq_d, zq_e, zq_f, zq_g, zq_h, zq_i, zq_j, zq_k, zq_l, zq_m, zq_n, zq_o, zq_p, zq_q, zq_r, zq_s, zq_t, zq_u, zq_v, zq_w, zq_x, zq_y, zq_z, zq_A, zq_B, zq_C, zq_D, zq_E, zq_F, zq_G, zq_H, zq_I, zq_J, zq_K, zq_L, ↓zq_M, ↓zq_N, ↓zq_O, ↓zq_P, ↓zq_Q, ↓zq_R, zq_S, zq_T, zq_U, zq_V, zq_W, zq_X, zq_Y, zq_Z, zq_0, zq_1, zq_2, zq_3, zq_4, zq_5, ↓zq_6, ↓zq_7, ↓zq_8, ↓zq_9, ↓zq_aa, zq_ab, zq_ac, zq_ad, zq_ae, zq_af, zq_ag, ↓zq_ah, ↓zq_ai, ↓zq_aj, zq_ak, ↓zq_al, ↓zq_am, b46, b47, b24, b25, e_b2, x_o1, x_o2, f4, q1]
    · rw [if_neg q1] at hz
      subst hz
      simp [zq_a, zq_b, zq_c, zq_d, zq_e, zq_f, zq_g, zq_h, zq_i, zq_j, zq_k, zq_l, zq_m, zq_n, zq_o, zq_p, zq_q, zq_r, zq_s, zq_t, zq_u, zq_v, zq_w, zq_x, zq_y, zq_z, zq_A, zq_B, zq_C, zq_D, zq_E, zq_F, zq_G, zq_H, zq_I, zq_J, zq_K, zq_L, ↓zq_M, ↓zq_N, ↓zq_O, ↓zq_P, ↓zq_Q, ↓zq_R, zq_S, zq_T, zq_U, zq_V, zq_W, zq_X, zq_Y, zq_Z, zq_0, zq_1, zq_2, zq_3, zq_4, zq_5, ↓zq_6, ↓zq_7, ↓zq_8, ↓zq_9, ↓zq_aa, zq_ab, zq_ac, zq_ad, zq_ae, zq_af, zq_ag, ↓zq_ah, ↓zq_ai, ↓zq_aj, zq_ak, ↓zq_al, ↓zq_am, b46, b47, b24, b25, e_b2, x_o1, x_o2, f4, q, q1]
theorem h_141n {d i v x z : Int} {M : EM} (c0 : E_C 154 [8, d] M = some (x, M)) (c1 : E_C 156 [x, -1] M = some (z, M)) (hz : z ≠ 0) : E_C 141 [8, d, i, v] M = some (z, M) := by
  have s0 : E_C 141 [8, d, i, v] M = e_tv E_C (E_V 141) e_t141_0 [8, d, i, v, 0, 0] M := r_ent (u := 141) (as := [8, d, i, v]) (M := M) (decide_eq_true c_this)
  rw [s0]
  unfold e_t141_0
  simp [zq_a, zq_b, zq_c, zq_d, zq_e, zq_f, zq_g, zq_h, zq_i, zq_j, zq_k, zq_l, zq_m, zq_n, zq_o, zq_p, zq_q, zq_r, zq_s, zq_t, zq_u, zq_v, zq_w, zq_x, zq_y, zq_z, zq_A, zq_B, zq_C, zq_D, zq_E, zq_F, zq_G, zq_H, zq_I, zq_J, zq_K, zq_L, ↓zq_M, ↓zq_N, ↓zq_O, ↓zq_P, ↓zq_Q, ↓zq_R, zq_S, zq_T, zq_U, zq_V, zq_W, zq_X, zq_Y, zq_Z, zq_0, zq_1, zq_2, zq_3, zq_4, zq_5, ↓zq_6, ↓zq_7, ↓zq_8, ↓zq_9, ↓zq_aa, zq_ab, zq_ac, zq_ad, zq_ae, zq_af, zq_ag, ↓zq_ah, ↓zq_ai, ↓zq_aj, zq_ak, ↓zq_al, ↓zq_am, e_b1, e_b2, x_o1, x_o2, c0, c1, hz]
theorem h_141m {d i v h n : Int} {M : EM} (hh : h ∈ a_SH) (c0 : E_C 154 [8, d] M = some (h, M)) (c1 : E_C 156 [h, -1] M = some (0, M)) (hn : M h.toNat 5 = n) (q : i < 0 ∨ n ≤ i) : E_C 141 [8, d, i, v] M = some (-13, M) := by
  have s0 : E_C 141 [8, d, i, v] M = e_tv E_C (E_V 141) e_t141_0 [8, d, i, v, 0, 0] M := r_ent (u := 141) (as := [8, d, i, v]) (M := M) (decide_eq_true c_this)
  obtain ⟨-, -, -, f5⟩ := h_sf hh M
  rw [hn] at f5
  have hne : h ≠ -1 := by
    have := w_sh hh
    omega
  rw [s0]
  unfold e_t141_0
  rcases x_le 0 i with ⟨q1, q1_n⟩ | ⟨q1, q1_n⟩
  · have q2 : n ≤ i := by omega
    simp [zq_a, zq_b, zq_c, zq_d, zq_e, zq_f, zq_g, zq_h, zq_i, zq_j, zq_k, zq_l, zq_m, zq_n, zq_o, zq_p, zq_q, zq_r, zq_s, zq_t, zq_u, zq_v, zq_w, zq_x, zq_y, zq_z, zq_A, zq_B, zq_C, zq_D, zq_E, zq_F, zq_G, zq_H, zq_I, zq_J, zq_K, zq_L, ↓zq_M, ↓zq_N, ↓zq_O, ↓zq_P, ↓zq_Q, ↓zq_R, zq_S, zq_T, zq_U, zq_V, zq_W, zq_X, zq_Y, zq_Z, zq_0, zq_1, zq_2, zq_3, zq_4, zq_5, ↓zq_6, ↓zq_7, ↓zq_8, ↓zq_9, ↓zq_aa, zq_ab, zq_ac, zq_ad, zq_ae, zq_af, zq_ag, ↓zq_ah, ↓zq_ai, ↓zq_aj, zq_ak, ↓zq_al, ↓zq_am, e_b1, e_b2, x_o1, x_o2, c0, c1, hne, f5, q1, q1_n, q2]
  · simp [zq_a, zq_b, zq_c, zq_d, zq_e, zq_f, zq_g, zq_h, zq_i, zq_j, zq_k, zq_l, zq_m, zq_n, zq_o, zq_p, zq_q, zq_r, zq_s, zq_t, zq_u, zq_v, zq_w, zq_x, zq_y, zq_z, zq_A, zq_B, zq_C, zq_D, zq_E, zq_F, zq_G, zq_H, zq_I, zq_J, zq_K, zq_L, ↓zq_M, ↓zq_N, ↓zq_O, ↓zq_P, ↓zq_Q, ↓zq_R, zq_S, zq_T, zq_U, zq_V, zq_W, zq_X, zq_Y, zq_Z, zq_0, zq_1, zq_2, zq_3, zq_4, zq_5, ↓zq_6, ↓zq_7, ↓zq_8, ↓zq_9, ↓zq_aa, zq_ab, zq_ac, zq_ad, zq_ae, zq_af, zq_ag, ↓zq_ah, ↓zq_ai, ↓zq_aj, zq_ak, ↓zq_al, ↓zq_am, e_b1, e_b2, x_o1, x_o2, c0, c1, hne, f5, q1, q1_n]
theorem h_141y {d i v h n x : Int} {M M1 : EM} (hh : h ∈ a_SH) (c0 : E_C 154 [8, d] M = some (h, M)) (c1 : E_C 156 [h, -1] M = some (0, M)) (hn : M h.toNat 5 = n) (q0 : 0 ≤ i) (q1 : i < n) (k : E_C 88 [h, v] M = some (x, M)) (l : E_C 147 [h + 1, i, x] M = some (0, M1)) : E_C 141 [8, d, i, v] M = some (0, M1) := by
  have s0 : E_C 141 [8, d, i, v] M = e_tv E_C (E_V 141) e_t141_0 [8, d, i, v, 0, 0] M := r_ent (u := 141) (as := [8, d, i, v]) (M := M) (decide_eq_true c_this)
  obtain ⟨-, -, -, f5⟩ := h_sf hh M
  rw [hn] at f5
  obtain ⟨s1, s2, s3, s4, s5, s6, s7⟩ := w_sh hh
  have g6 : e_gf 518 [h] M = some (h + 1) := (c_gr s1 (by decide +kernel)).trans (congrArg some s5)
  have hne : h ≠ -1 := by omega
  have q0' : ¬ i < 0 := by omega
  have q1' : ¬ n ≤ i := by omega
  rw [s0]
  unfold e_t141_0
  simp [zq_a, zq_b, zq_c, zq_d, zq_e, zq_f, zq_g, zq_h, zq_i, zq_j, zq_k, zq_l, zq_m, zq_n, zq_o, zq_p, zq_q, zq_r, zq_s, zq_t, zq_u, zq_v, zq_w, zq_x, zq_y, zq_z, zq_A, zq_B, zq_C, zq_D, zq_E, zq_F, zq_G, zq_H, zq_I, zq_J, zq_K, zq_L, ↓zq_M, ↓zq_N, ↓zq_O, ↓zq_P, ↓zq_Q, ↓zq_R, zq_S, zq_T, zq_U, zq_V, zq_W, zq_X, zq_Y, zq_Z, zq_0, zq_1, zq_2, zq_3, zq_4, zq_5, ↓zq_6, ↓zq_7, ↓zq_8, ↓zq_9, ↓zq_aa, zq_ab, zq_ac, zq_ad, zq_ae, zq_af, zq_ag, ↓zq_ah, ↓zq_ai, ↓zq_aj, zq_ak, ↓zq_al, ↓zq_am, e_b1, e_b2, x_o1, x_o2, c0, c1, hne, f5, q0, q0', q1, q1', g6, k, l]
theorem h_260n {d i v z : Int} {M : EM} (c1 : E_C 189 [192, d, -1] M = some (z, M)) (hz : z ≠ 0) : E_C 260 [192, d, i, v] M = some (z, M) := by
  rw [r_ent (show e_rok 260 [192, d, i, v] = true from decide_eq_true r_ref)]
  show e_tv E_C (E_V 260) e_t260_0 [192, d, i, v, 0] M = _
  unfold e_t260_0
  simp [zq_a, zq_b, zq_c, zq_d, zq_e, zq_f, zq_g, zq_h, zq_i, zq_j, zq_k, zq_l, zq_m, zq_n, zq_o, zq_p, zq_q, zq_r, zq_s, zq_t, zq_u, zq_v, zq_w, zq_x, zq_y, zq_z, zq_A, zq_B, zq_C, zq_D, zq_E, zq_F, zq_G, zq_H, zq_I, zq_J, zq_K, zq_L, ↓zq_M, ↓zq_N, ↓zq_O, ↓zq_P, ↓zq_Q, ↓zq_R, zq_S, zq_T, zq_U, zq_V, zq_W, zq_X, zq_Y, zq_Z, zq_0, zq_1, zq_2, zq_3, zq_4, zq_5, ↓zq_6, ↓zq_7, ↓zq_8, ↓zq_9, ↓zq_aa, zq_ab, zq_ac, zq_ad, zq_ae, zq_af, zq_ag, ↓zq_ah, ↓zq_ai, ↓zq_aj, zq_ak, ↓zq_al, ↓zq_am, e_b1, e_b2, x_o1, x_o2, c1, hz]
theorem h_260m {d i v n n1 : Int} {M : EM} (c1 : E_C 189 [192, d, -1] M = some (0, M)) (l3 : e_op 60 [197, d] M = some n) (w : e_w (n - 1) = n1) (k : E_C 168 [i, 0, n1] M = some (0, M)) : E_C 260 [192, d, i, v] M = some (-13, M) := by
  rw [r_ent (show e_rok 260 [192, d, i, v] = true from decide_eq_true r_ref)]
  show e_tv E_C (E_V 260) e_t260_0 [192, d, i, v, 0] M = _
  unfold e_t260_0
  simp [zq_a, zq_b, zq_c, zq_d, zq_e, zq_f, zq_g, zq_h, zq_i, zq_j, zq_k, zq_l, zq_m, zq_n, zq_o, zq_p, zq_q, zq_r, zq_s, zq_t, zq_u, zq_v, zq_w, zq_x, zq_y, zq_z, zq_A, zq_B, zq_C, zq_D, zq_E, zq_F, zq_G, zq_H, zq_I, zq_J, zq_K, zq_L, ↓zq_M, ↓zq_N, ↓zq_O, ↓zq_P, ↓zq_Q, ↓zq_R, zq_S, zq_T, zq_U, zq_V, zq_W, zq_X, zq_Y, zq_Z, zq_0, zq_1, zq_2, zq_3, zq_4, zq_5, ↓zq_6, ↓zq_7, ↓zq_8, ↓zq_9, ↓zq_aa, zq_ab, zq_ac, zq_ad, zq_ae, zq_af, zq_ag, ↓zq_ah, ↓zq_ai, ↓zq_aj, zq_ak, ↓zq_al, ↓zq_am, e_b1, e_b2, x_o1, x_o2, r_O4, c1, l3, w, k]
theorem h_260y {d i v n n1 s x x1 x2 b ia : Int} {na : Nat} {M : EM} (c1 : E_C 189 [192, d, -1] M = some (0, M)) (l3 : e_op 60 [197, d] M = some n) (w : e_w (n - 1) = n1) (k : E_C 168 [i, 0, n1] M = some (1, M)) (l2 : e_op 60 [196, d] M = some s) (b24 : e_b1 24 v = some x1) (b25 : e_b1 25 v = some x2) (hx : x = if s = 0 then x1 else if s = 1 then x2 else v) (w1 : e_w (120 * d) = b) (w2 : e_w (b + i) = ia) (st : ∀ v M, e_st 100 [198, ia, v] M = some (e_up M 198 na v)) : E_C 260 [192, d, i, v] M = some (0, e_up M 198 na x) := by
  have a1 : ∀ a, e_b1 1 a = some a := fun _ => rfl
  have b22 : ∀ a, e_b1 22 a = some a := fun _ => rfl
  have b46 : ∀ a, e_b1 46 a = some (if a = 0 then 1 else 0) := fun _ => rfl
  have b47 : ∀ a, e_b1 47 a = some (if a ≠ 0 then 1 else 0) := fun _ => rfl
  rw [r_ent (show e_rok 260 [192, d, i, v] = true from decide_eq_true r_ref)]
  show e_tv E_C (E_V 260) e_t260_0 [192, d, i, v, 0] M = _
  unfold e_t260_0
  by_cases q : s = 0
  · rw [if_pos q] at hx
    subst hx
    simp [zq_a, zq_b, zq_c, zq_d, zq_e, zq_f, zq_g, zq_h, zq_i, zq_j, zq_k, zq_l, zq_m, zq_n, zq_o, zq_p, zq_q, zq_r, zq_s, zq_t, zq_u, zq_v, zq_w, zq_x, zq_y, zq_z, zq_A, zq_B, zq_C, zq_D, zq_E, zq_F, zq_G, zq_H, zq_I, zq_J, zq_K, zq_L, ↓zq_M, ↓zq_N, ↓zq_O, ↓zq_P, ↓zq_Q, ↓zq_R, zq_S, zq_T, zq_U, zq_V, zq_W, zq_X, zq_Y, zq_Z, zq_0, zq_1, zq_2, zq_3, zq_4, zq_5, ↓zq_6, ↓zq_7, ↓zq_8, ↓zq_9, ↓zq_aa, zq_ab, zq_ac, zq_ad, zq_ae, zq_af, zq_ag, ↓zq_ah, ↓zq_ai, ↓zq_aj, zq_ak, ↓zq_al, ↓zq_am, a1, b22, b46, b47, b24, b25, e_b2, x_o1, x_o2, r_O3, r_O4, r_O5, c1, l3, w, k, l2, q, w1, w2, st]
  · rw [if_neg q] at hx
    by_cases q1 : s = 1
    · rw [if_pos q1] at hx
      subst hx
      simp [zq_a, zq_b, zq_c, zq_d, zq_e, zq_f, zq_g, zq_h, zq_i, zq_j, zq_k, zq_l, zq_m, zq_n, zq_o, zq_p, zq_q, zq_r, zq_s, zq_t, zq_u, zq_v, zq_w, zq_x, zq_y, zq_z, zq_A, zq_B, zq_C, zq_D, zq_E, zq_F, zq_G, zq_H, zq_I, zq_J, zq_K, zq_L, ↓zq_M, ↓zq_N, ↓zq_O, ↓zq_P, ↓zq_Q, ↓zq_R, zq_S, zq_T, zq_U, zq_V, zq_W, zq_X, zq_Y, zq_Z, zq_0, zq_1, zq_2, zq_3, zq_4, zq_5, ↓zq_6, ↓zq_7, ↓zq_8, ↓zq_9, ↓zq_aa, zq_ab, zq_ac, zq_ad, zq_ae, zq_af, zq_ag, ↓zq_ah, ↓zq_ai, ↓zq_aj, zq_ak, ↓zq_al, ↓zq_am, a1, b22, b46, b47, b24, b25, e_b2, x_o1, x_o2, r_O3, r_O4, r_O5, c1, l3, w, k, l2, q1, w1, w2, st]
    · rw [if_neg q1] at hx
      subst hx
      simp [zq_a, zq_b, zq_c, zq_d, zq_e, zq_f, zq_g, zq_h, zq_i, zq_j, zq_k, zq_l, zq_m, zq_n, zq_o, zq_p, zq_q, zq_r, zq_s, zq_t, zq_u, zq_v, zq_w, zq_x, zq_y, zq_z, zq_A, zq_B, zq_C, zq_D, zq_E, zq_F, zq_G, zq_H, zq_I, zq_J, zq_K, zq_L, ↓zq_M, ↓zq_N, ↓zq_O, ↓zq_P, ↓zq_Q, ↓zq_R, zq_S, zq_T, zq_U, zq_V, zq_W, zq_X, zq_Y, zq_Z, zq_0, zq_1, zq_2, zq_3, zq_4, zq_5, ↓zq_6, ↓zq_7, ↓zq_8, ↓zq_9, ↓zq_aa, zq_ab, zq_ac, zq_ad, zq_ae, zq_af, zq_ag, ↓zq_ah, ↓zq_ai, ↓zq_aj, zq_ak, ↓zq_al, ↓zq_am, a1, b22, b46, b47, b24, b25, e_b2, x_o1, x_o2, r_O3, r_O4, r_O5, c1, l3, w, k, l2, q, q1, w1, w2, st]
theorem h_no2 {M : EM} {d w : Int} (h : h_no M d w = 0) : (0 ≤ d ∧ d < 8) ∧ M 195 d.toNat = 2 := by
  unfold h_no at h
  by_cases hd : 0 ≤ d ∧ d < 8
  · refine ⟨hd, ?_⟩
    rw [if_pos hd] at h
    by_cases c : M 195 d.toNat = 0
    · rw [if_pos c] at h; exact absurd h (by decide)
    · rw [if_neg c] at h
      by_cases c2 : M 195 d.toNat = 2 ∧ (w = -1 ∨ w = M 196 d.toNat)
      · exact c2.1
      · rw [if_neg c2] at h; exact absurd h (by decide)
  · rw [if_neg hd] at h; exact absurd h (by decide)
theorem h_put {d i v r1 r2 : Int} {M M1 M2 : EM} (hJ : r_J M) (hS : h_S M) (k1 : E_C 141 [8, d, i, v] M = some (r1, M1)) (k2 : E_C 260 [192, d, i, v] M1 = some (r2, M2)) : r1 = r2 ∧ h_S M2 := by
  by_cases q : h_no M d (-1) = 0
  · obtain ⟨hd, kept⟩ := h_no2 q
    obtain ⟨m, rfl⟩ : ∃ m : Nat, d = m := ⟨d.toNat, by omega⟩
    rw [Int.toNat_natCast] at kept
    have m8 : m < 8 := by omega
    have hh := (h_gr145 m8).2
    obtain ⟨c0, c1⟩ := h_ref (w := -1) hS hd
    rw [q, Int.toNat_natCast] at c1
    rw [Int.toNat_natCast] at c0
    have sz := hJ.2.1 m m8
    have hrow : M (146 + 2 * m) 4 = M 196 m ∧ M (146 + 2 * m) 5 = M 197 m := by
      rcases hS m m8 with ⟨a, -⟩ | ⟨a, -⟩ | ⟨a, -, -, e4, e5, -⟩
      · omega
      · omega
      · exact ⟨e4, e5⟩
    obtain ⟨n, hn⟩ : ∃ n, M 197 m = n := ⟨_, rfl⟩
    have hn5 : M (((146 + 2 * m : Nat) : Int)).toNat 5 = n := by rw [Int.toNat_natCast, hrow.2, hn]
    rw [hn] at sz
    have eno : ∀ N : EM, (∀ id j, 192 ≤ id → id ≠ 198 → N id j = M id j) → h_no N (m : Int) (-1) = 0 := fun N hN => by
      rw [← q]
      unfold h_no
      rw [hN 195 _ (by decide) (by decide), hN 196 _ (by decide) (by decide)]
    have w1 : e_w (n - 1) = n - 1 := a_w_id (by omega) (by omega)
    by_cases c : 0 ≤ i ∧ i < n
    · obtain ⟨x1, b24⟩ : ∃ x, e_b1 24 v = some x := ⟨_, rfl⟩
      obtain ⟨x2, b25⟩ : ∃ x, e_b1 25 v = some x := ⟨_, rfl⟩
      have e88 := h_88 (z := if M 196 m = 0 then x1 else if M 196 m = 1 then x2 else v) hh (M := M) b24 b25 (by rw [Int.toNat_natCast, hrow.1])
      obtain ⟨x, hx⟩ : ∃ x, x = if M 196 m = 0 then x1 else if M 196 m = 1 then x2 else v := ⟨_, rfl⟩
      rw [← hx] at e88
      obtain ⟨s1, s2, s3, s4, s5, s6, s7⟩ := w_sh hh
      obtain ⟨j, hj⟩ : ∃ j : Nat, i = j := ⟨i.toNat, by omega⟩
      have j120 : j < 120 := by
        clear w1
        omega
      have l := w_layN (a := ((146 + 2 * m : Nat) : Int) + 1) (i := i) (n := 120) ⟨s2, s3, s4⟩ hj j120 x M
      have e1 := Prod.mk.inj (Option.some.inj (k1.symm.trans (h_141y hh c0 c1 hn5 c.1 c.2 e88 l)))
      obtain ⟨e1, e2⟩ := e1
      rw [show (((146 + 2 * m : Nat) : Int) + 1).toNat = 147 + 2 * m by clear w1; omega] at e2
      subst e2
      have fr : ∀ id j', 192 ≤ id → (e_up M (147 + 2 * m) j x) id j' = M id j' := fun id j' h => c_up_n (by clear w1; omega)
      have c2 := h_189 (d := (m : Int)) (w := -1) (M := e_up M (147 + 2 * m) j x) (by decide)
      rw [eno _ (fun id j' h _ => fr id j' h)] at c2
      have b7 : 0 ≤ (m : Int) ∧ (m : Int) ≤ 7 := by
        clear w1
        omega
      obtain ⟨-, l2, l3, -⟩ := r_isD (m : Int) (e_up M (147 + 2 * m) j x) b7
      rw [fr _ _ (by decide), Int.toNat_natCast] at l2 l3
      rw [hn] at l3
      have kin := r_in1 (M := e_up M (147 + 2 * m) j x) (x := i) (lo := 0) (hi := n - 1) (by clear w1; omega)
      have b8 : 0 ≤ 120 * (m : Int) + i ∧ 120 * (m : Int) + i < 960 := by
        clear w1
        omega
      have en : (120 * (m : Int) + i).toNat = 120 * m + j := by
        clear w1
        omega
      have st : ∀ v M, e_st 100 [198, 120 * (m : Int) + i, v] M = some (e_up M 198 (120 * m + j) v) := fun v M => (r_st (n := 960) (by decide) (by decide +kernel) (by decide +kernel) b8.1 b8.2).trans (by rw [en]; rfl)
      have w2 : e_w (120 * (m : Int)) = 120 * (m : Int) ∧ e_w (120 * (m : Int) + i) = 120 * (m : Int) + i := by
        clear w1 st en l l2 l3 e88 kin c2
        refine ⟨?_, ?_⟩ <;> exact a_w_id (by omega) (by omega)
      have e3 := Prod.mk.inj (Option.some.inj (k2.symm.trans (h_260y c2 l3 w1 kin l2 b24 b25 hx w2.1 w2.2 st)))
      obtain ⟨e3, e4⟩ := e3
      subst e4
      clear w1 w2 st
      refine ⟨e1.trans e3.symm, fun d hd => ?_⟩
      have z : ∀ id k, id ≠ 198 → id ≠ 147 + 2 * m → (e_up (e_up M (147 + 2 * m) j x) 198 (120 * m + j) x) id k = M id k := fun id k a b => by
        rw [c_up_n (fun h => a h.1), c_up_n (fun h => b h.1)]
      rw [z 195 _ (by decide) (by omega), z 196 _ (by decide) (by omega), z 197 _ (by decide) (by omega), z (146 + 2 * d) _ (by omega) (by omega), z (146 + 2 * d) _ (by omega) (by omega), z (146 + 2 * d) _ (by omega) (by omega), z (146 + 2 * d) _ (by omega) (by omega)]
      rcases hS d hd with h | h | ⟨b1, b2, b3, b4, b5, b6⟩
      · exact Or.inl h
      · exact Or.inr (Or.inl h)
      · refine Or.inr (Or.inr ⟨b1, b2, b3, b4, b5, fun k hk => ?_⟩)
        by_cases e : d = m ∧ k = j
        · obtain ⟨rfl, rfl⟩ := e
          rw [c_up_n (by omega), c_up_s, c_up_s]
        · rw [c_up_n (by omega), c_up_n (by omega), c_up_n (by omega), c_up_n (by omega)]
          exact b6 k hk
    · have e1 := Prod.mk.inj (Option.some.inj (k1.symm.trans (h_141m (v := v) hh c0 c1 hn5 (by clear w1; omega))))
      obtain ⟨e1, e2⟩ := e1
      subst e2
      have c2 := h_189 (d := (m : Int)) (w := -1) (M := M1) (by decide)
      rw [q] at c2
      have b7 : 0 ≤ (m : Int) ∧ (m : Int) ≤ 7 := by
        clear w1
        omega
      obtain ⟨-, l2, l3, -⟩ := r_isD (m : Int) M1 b7
      rw [Int.toNat_natCast, hn] at l3
      have kin := r_in0 (M := M1) (x := i) (lo := 0) (hi := n - 1) (fun h => c (by clear w1; omega))
      have e3 := Prod.mk.inj (Option.some.inj (k2.symm.trans (h_260m (v := v) c2 l3 w1 kin)))
      rw [e1, e3.1, e3.2]
      exact ⟨rfl, hS⟩
  · have cc : ∃ x, E_C 154 [8, d] M = some (x, M) ∧ E_C 156 [x, -1] M = some (h_no M d (-1), M) := by
      by_cases hd : 0 ≤ d ∧ d < 8
      · exact ⟨_, h_ref hS hd⟩
      · obtain ⟨a, b, c⟩ := h_ref1 (w := -1) (M := M) hd
        exact ⟨-1, a, by rw [c]; exact b⟩
    obtain ⟨x, c0, c1⟩ := cc
    have e1 := Prod.mk.inj (Option.some.inj (k1.symm.trans (h_141n (v := v) (i := i) c0 c1 q)))
    obtain ⟨e1, e2⟩ := e1
    subst e2
    have c2 := h_189 (d := d) (w := -1) (M := M1) (by decide)
    have e3 := Prod.mk.inj (Option.some.inj (k2.symm.trans (h_260n (v := v) (i := i) c2 q)))
    rw [e1, e3.1, e3.2]
    exact ⟨rfl, hS⟩
end
