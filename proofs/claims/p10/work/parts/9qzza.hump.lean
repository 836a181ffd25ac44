/-! hump: class and reference, exactly; the two answers -/
section HQ
variable {P : Nat → Int} {u : Nat} {M : EM} {k x2 x3 x4 x5 p : Int}
theorem hp_n_in (h : u ≤ 499) : (u + 1 ≤ hp_n P u ∧ hp_n P u ≤ 501) ∧ (hp_n P u ≤ 500 → P (hp_n P u) ≠ P u) := by
  obtain ⟨a, b, c, d⟩ := hp_x_in (P := P) (u := u) (500 - u) (u + 1) (by omega)
  exact ⟨⟨a, b⟩, d⟩
/-- the class: past equal POWERS -/
theorem hp_23i (hw : ∀ y : Nat, y ≤ 500 → ∀ z : Int, z = y → E_C 20 [170, z] M = some (P y, M)) (hu : u ≤ 499) (h4 : x4 = u) : ∀ (d y : Nat) (x3 : Int), x3 = y → y + d = 501 → E_V 23 20 [170, k, x2, x3, x4, x5] M = E_V 23 20 [170, k, x2, (hp_x P u d y : Int), x4, x5] M := by
  intro d
  induction d with
  | zero => intro y x3 hx hy; rw [hx]; rfl
  | succ d ih =>
    intro y x3 hx hy
    have k1 := hw y (by omega) x3 hx
    have k2 := hw u (by omega) x4 h4
    show _ = E_V 23 20 [170, k, x2, ((if P y = P u then hp_x P u d (y + 1) else y : Nat) : Int), x4, x5] M
    by_cases e : P y = P u
    · rw [if_pos e, ← ih (y + 1) (x3 + 1) (by omega) (by omega)]
      have q : x3 ≤ 500 := by omega
      have w : e_w (x3 + 1) = x3 + 1 := a_w_id (by omega) (by omega)
      rw [e] at k1
      clear ih hw e
      generalize P u = b at *
      rw [E_V_eq]
      show e_tv E_C (E_V 23) e_t23_20 [170, k, x2, x3, x4, x5] M = _
      unfold e_t23_20
      simp [zq_a, zq_b, zq_c, zq_d, zq_e, zq_f, zq_g, zq_h, zq_i, zq_j, zq_k, zq_l, zq_m, zq_n, zq_o, zq_p, zq_q, zq_r, zq_s, zq_t, zq_u, zq_v, zq_w, zq_x, zq_y, zq_z, zq_A, zq_B, zq_C, zq_D, zq_E, zq_F, zq_G, zq_H, zq_I, zq_J, zq_K, zq_L, ↓zq_M, ↓zq_N, ↓zq_O, ↓zq_P, ↓zq_Q, ↓zq_R, zq_S, zq_T, zq_U, zq_V, zq_W, zq_X, zq_Y, zq_Z, zq_0, zq_1, zq_2, zq_3, zq_4, zq_5, ↓zq_6, ↓zq_7, ↓zq_8, ↓zq_9, ↓zq_aa, zq_ab, zq_ac, zq_ad, zq_ae, zq_af, zq_ag, ↓zq_ah, ↓zq_ai, ↓zq_aj, zq_ak, ↓zq_al, ↓zq_am, e_b1, e_b2, x_o1, x_o2, q, k1, k2, w]
    · rw [if_neg e, hx]
theorem hp_23e {n : Nat} {nn : Int} (hw : ∀ y : Nat, y ≤ 500 → ∀ z : Int, z = y → E_C 20 [170, z] M = some (P y, M)) (h1 : 1 ≤ u) (hu : u ≤ 499) (h4 : x4 = u) (hn : nn = n) (n1 : n ≤ 501) (n2 : n ≤ 500 → P n ≠ P u) (hc : 0 ≤ x2 ∧ x2 ≤ 1000) : E_V 23 20 [170, k, x2, nn, x4, x5] M = if P (u - 1) < P u ∧ hp_P P n < P u then (if x2 = k then some (x4, M) else E_V 23 7 [170, k, x2 + 1, nn, nn, hp_P P n] M) else E_V 23 7 [170, k, x2, nn, nn, hp_P P n] M := by
  have s104 : ∀ c b, E_V 23 104 [170, k, c, nn, x4, b] M = E_V 23 7 [170, k, c, nn, nn, b] M := fun c b => by
    rw [E_V_eq]
    show e_tv E_C (E_V 23) e_t23_104 [170, k, c, nn, x4, b] M = _
    unfold e_t23_104
    simp [zq_a, zq_b, zq_c, zq_d, zq_e, zq_f, zq_g, zq_h, zq_i, zq_j, zq_k, zq_l, zq_m, zq_n, zq_o, zq_p, zq_q, zq_r, zq_s, zq_t, zq_u, zq_v, zq_w, zq_x, zq_y, zq_z, zq_A, zq_B, zq_C, zq_D, zq_E, zq_F, zq_G, zq_H, zq_I, zq_J, zq_K, zq_L, ↓zq_M, ↓zq_N, ↓zq_O, ↓zq_P, ↓zq_Q, ↓zq_R, zq_S, zq_T, zq_U, zq_V, zq_W, zq_X, zq_Y, zq_Z, zq_0, zq_1, zq_2, zq_3, zq_4, zq_5, ↓zq_6, ↓zq_7, ↓zq_8, ↓zq_9, ↓zq_aa, zq_ab, zq_ac, zq_ad, zq_ae, zq_af, zq_ag, ↓zq_ah, ↓zq_ai, ↓zq_aj, zq_ak, ↓zq_al, ↓zq_am, e_b1, e_b2, x_o1, x_o2]
  have k1 := hw u (by omega) x4 h4
  have k2 := hw (u - 1) (by omega) (x4 - 1) (by omega)
  have k3 : n ≤ 500 → E_C 20 [170, nn] M = some (P n, M) := fun h => hw n h nn hn
  have w1 : e_w (x4 - 1) = x4 - 1 := a_w_id (by omega) (by omega)
  have w2 : e_w (x2 + 1) = x2 + 1 := a_w_id (by omega) (by omega)
  have eP : hp_P P n = if 500 < n then 0 else P n := rfl
  rw [eP]
  clear eP hw
  revert k3 n2 k1 k2
  generalize P n = c
  generalize P u = b
  generalize P (u - 1) = a
  intro n2 k1 k2 k3
  rcases Nat.lt_or_ge 500 n with q | q
  · rw [if_pos q]
    have q' : ¬ (nn ≤ 500) := by omega
    have q2 : 500 < nn := by omega
    rcases x_lt a b with ⟨c1, c1_n⟩ | ⟨c1, c1_n⟩
    · rcases x_lt 0 b with ⟨c2, c2_n⟩ | ⟨c2, c2_n⟩
      · rw [if_pos ⟨c1, c2⟩]
        by_cases c3 : x2 = k
        · rw [if_pos c3]
          rw [E_V_eq]
          show e_tv E_C (E_V 23) e_t23_20 [170, k, x2, nn, x4, x5] M = _
          unfold e_t23_20
          simp [zq_a, zq_b, zq_c, zq_d, zq_e, zq_f, zq_g, zq_h, zq_i, zq_j, zq_k, zq_l, zq_m, zq_n, zq_o, zq_p, zq_q, zq_r, zq_s, zq_t, zq_u, zq_v, zq_w, zq_x, zq_y, zq_z, zq_A, zq_B, zq_C, zq_D, zq_E, zq_F, zq_G, zq_H, zq_I, zq_J, zq_K, zq_L, ↓zq_M, ↓zq_N, ↓zq_O, ↓zq_P, ↓zq_Q, ↓zq_R, zq_S, zq_T, zq_U, zq_V, zq_W, zq_X, zq_Y, zq_Z, zq_0, zq_1, zq_2, zq_3, zq_4, zq_5, ↓zq_6, ↓zq_7, ↓zq_8, ↓zq_9, ↓zq_aa, zq_ab, zq_ac, zq_ad, zq_ae, zq_af, zq_ag, ↓zq_ah, ↓zq_ai, ↓zq_aj, zq_ak, ↓zq_al, ↓zq_am, e_b1, e_b2, x_o1, x_o2, q', q2, k1, k2, w1, w2, c1, c1_n, c2, c2_n, c3]
        · rw [if_neg c3, ← s104]
          rw [E_V_eq]
          show e_tv E_C (E_V 23) e_t23_20 [170, k, x2, nn, x4, x5] M = _
          unfold e_t23_20
          simp [zq_a, zq_b, zq_c, zq_d, zq_e, zq_f, zq_g, zq_h, zq_i, zq_j, zq_k, zq_l, zq_m, zq_n, zq_o, zq_p, zq_q, zq_r, zq_s, zq_t, zq_u, zq_v, zq_w, zq_x, zq_y, zq_z, zq_A, zq_B, zq_C, zq_D, zq_E, zq_F, zq_G, zq_H, zq_I, zq_J, zq_K, zq_L, ↓zq_M, ↓zq_N, ↓zq_O, ↓zq_P, ↓zq_Q, ↓zq_R, zq_S, zq_T, zq_U, zq_V, zq_W, zq_X, zq_Y, zq_Z, zq_0, zq_1, zq_2, zq_3, zq_4, zq_5, ↓zq_6, ↓zq_7, ↓zq_8, ↓zq_9, ↓zq_aa, zq_ab, zq_ac, zq_ad, zq_ae, zq_af, zq_ag, ↓zq_ah, ↓zq_ai, ↓zq_aj, zq_ak, ↓zq_al, ↓zq_am, e_b1, e_b2, x_o1, x_o2, q', q2, k1, k2, w1, w2, c1, c1_n, c2, c2_n, c3]
      · rw [if_neg (fun e => by omega), ← s104]
        rw [E_V_eq]
        show e_tv E_C (E_V 23) e_t23_20 [170, k, x2, nn, x4, x5] M = _
        unfold e_t23_20
        simp [zq_a, zq_b, zq_c, zq_d, zq_e, zq_f, zq_g, zq_h, zq_i, zq_j, zq_k, zq_l, zq_m, zq_n, zq_o, zq_p, zq_q, zq_r, zq_s, zq_t, zq_u, zq_v, zq_w, zq_x, zq_y, zq_z, zq_A, zq_B, zq_C, zq_D, zq_E, zq_F, zq_G, zq_H, zq_I, zq_J, zq_K, zq_L, ↓zq_M, ↓zq_N, ↓zq_O, ↓zq_P, ↓zq_Q, ↓zq_R, zq_S, zq_T, zq_U, zq_V, zq_W, zq_X, zq_Y, zq_Z, zq_0, zq_1, zq_2, zq_3, zq_4, zq_5, ↓zq_6, ↓zq_7, ↓zq_8, ↓zq_9, ↓zq_aa, zq_ab, zq_ac, zq_ad, zq_ae, zq_af, zq_ag, ↓zq_ah, ↓zq_ai, ↓zq_aj, zq_ak, ↓zq_al, ↓zq_am, e_b1, e_b2, x_o1, x_o2, q', q2, k1, k2, w1, w2, c1, c1_n, c2, c2_n]
    · rw [if_neg (fun e => by omega), ← s104]
      rw [E_V_eq]
      show e_tv E_C (E_V 23) e_t23_20 [170, k, x2, nn, x4, x5] M = _
      unfold e_t23_20
      simp [zq_a, zq_b, zq_c, zq_d, zq_e, zq_f, zq_g, zq_h, zq_i, zq_j, zq_k, zq_l, zq_m, zq_n, zq_o, zq_p, zq_q, zq_r, zq_s, zq_t, zq_u, zq_v, zq_w, zq_x, zq_y, zq_z, zq_A, zq_B, zq_C, zq_D, zq_E, zq_F, zq_G, zq_H, zq_I, zq_J, zq_K, zq_L, ↓zq_M, ↓zq_N, ↓zq_O, ↓zq_P, ↓zq_Q, ↓zq_R, zq_S, zq_T, zq_U, zq_V, zq_W, zq_X, zq_Y, zq_Z, zq_0, zq_1, zq_2, zq_3, zq_4, zq_5, ↓zq_6, ↓zq_7, ↓zq_8, ↓zq_9, ↓zq_aa, zq_ab, zq_ac, zq_ad, zq_ae, zq_af, zq_ag, ↓zq_ah, ↓zq_ai, ↓zq_aj, zq_ak, ↓zq_al, ↓zq_am, e_b1, e_b2, x_o1, x_o2, q', q2, k1, k2, w1, w2, c1, c1_n]
  · rw [if_neg (show ¬ 500 < n by omega)]
    have q' : nn ≤ 500 := by omega
    have q2 : ¬ (500 < nn) := by omega
    have k3 := k3 q
    have n2 := n2 q
    rcases x_lt a b with ⟨c1, c1_n⟩ | ⟨c1, c1_n⟩
    · rcases x_lt c b with ⟨c2, c2_n⟩ | ⟨c2, c2_n⟩
      · rw [if_pos ⟨c1, c2⟩]
        by_cases c3 : x2 = k
        · rw [if_pos c3]
          rw [E_V_eq]
          show e_tv E_C (E_V 23) e_t23_20 [170, k, x2, nn, x4, x5] M = _
          unfold e_t23_20
          simp [zq_a, zq_b, zq_c, zq_d, zq_e, zq_f, zq_g, zq_h, zq_i, zq_j, zq_k, zq_l, zq_m, zq_n, zq_o, zq_p, zq_q, zq_r, zq_s, zq_t, zq_u, zq_v, zq_w, zq_x, zq_y, zq_z, zq_A, zq_B, zq_C, zq_D, zq_E, zq_F, zq_G, zq_H, zq_I, zq_J, zq_K, zq_L, ↓zq_M, ↓zq_N, ↓zq_O, ↓zq_P, ↓zq_Q, ↓zq_R, zq_S, zq_T, zq_U, zq_V, zq_W, zq_X, zq_Y, zq_Z, zq_0, zq_1, zq_2, zq_3, zq_4, zq_5, ↓zq_6, ↓zq_7, ↓zq_8, ↓zq_9, ↓zq_aa, zq_ab, zq_ac, zq_ad, zq_ae, zq_af, zq_ag, ↓zq_ah, ↓zq_ai, ↓zq_aj, zq_ak, ↓zq_al, ↓zq_am, e_b1, e_b2, x_o1, x_o2, q', q2, k1, k2, k3, n2, w1, w2, c1, c1_n, c2, c2_n, c3]
        · rw [if_neg c3, ← s104]
          rw [E_V_eq]
          show e_tv E_C (E_V 23) e_t23_20 [170, k, x2, nn, x4, x5] M = _
          unfold e_t23_20
          simp [zq_a, zq_b, zq_c, zq_d, zq_e, zq_f, zq_g, zq_h, zq_i, zq_j, zq_k, zq_l, zq_m, zq_n, zq_o, zq_p, zq_q, zq_r, zq_s, zq_t, zq_u, zq_v, zq_w, zq_x, zq_y, zq_z, zq_A, zq_B, zq_C, zq_D, zq_E, zq_F, zq_G, zq_H, zq_I, zq_J, zq_K, zq_L, ↓zq_M, ↓zq_N, ↓zq_O, ↓zq_P, ↓zq_Q, ↓zq_R, zq_S, zq_T, zq_U, zq_V, zq_W, zq_X, zq_Y, zq_Z, zq_0, zq_1, zq_2, zq_3, zq_4, zq_5, ↓zq_6, ↓zq_7, ↓zq_8, ↓zq_9, ↓zq_aa, zq_ab, zq_ac, zq_ad, zq_ae, zq_af, zq_ag, ↓zq_ah, ↓zq_ai, ↓zq_aj, zq_ak, ↓zq_al, ↓zq_am, e_b1, e_b2, x_o1, x_o2, q', q2, k1, k2, k3, n2, w1, w2, c1, c1_n, c2, c2_n, c3]
      · rw [if_neg (fun e => by omega), ← s104]
        rw [E_V_eq]
        show e_tv E_C (E_V 23) e_t23_20 [170, k, x2, nn, x4, x5] M = _
        unfold e_t23_20
        simp [zq_a, zq_b, zq_c, zq_d, zq_e, zq_f, zq_g, zq_h, zq_i, zq_j, zq_k, zq_l, zq_m, zq_n, zq_o, zq_p, zq_q, zq_r, zq_s, zq_t, zq_u, zq_v, zq_w, zq_x, zq_y, zq_z, zq_A, zq_B, zq_C, zq_D, zq_E, zq_F, zq_G, zq_H, zq_I, zq_J, zq_K, zq_L, ↓zq_M, ↓zq_N, ↓zq_O, ↓zq_P, ↓zq_Q, ↓zq_R, zq_S, zq_T, zq_U, zq_V, zq_W, zq_X, zq_Y, zq_Z, zq_0, zq_1, zq_2, zq_3, zq_4, zq_5, ↓zq_6, ↓zq_7, ↓zq_8, ↓zq_9, ↓zq_aa, zq_ab, zq_ac, zq_ad, zq_ae, zq_af, zq_ag, ↓zq_ah, ↓zq_ai, ↓zq_aj, zq_ak, ↓zq_al, ↓zq_am, e_b1, e_b2, x_o1, x_o2, q', q2, k1, k2, k3, n2, w1, w2, c1, c1_n, c2, c2_n]
    · rw [if_neg (fun e => by omega), ← s104]
      rw [E_V_eq]
      show e_tv E_C (E_V 23) e_t23_20 [170, k, x2, nn, x4, x5] M = _
      unfold e_t23_20
      simp [zq_a, zq_b, zq_c, zq_d, zq_e, zq_f, zq_g, zq_h, zq_i, zq_j, zq_k, zq_l, zq_m, zq_n, zq_o, zq_p, zq_q, zq_r, zq_s, zq_t, zq_u, zq_v, zq_w, zq_x, zq_y, zq_z, zq_A, zq_B, zq_C, zq_D, zq_E, zq_F, zq_G, zq_H, zq_I, zq_J, zq_K, zq_L, ↓zq_M, ↓zq_N, ↓zq_O, ↓zq_P, ↓zq_Q, ↓zq_R, zq_S, zq_T, zq_U, zq_V, zq_W, zq_X, zq_Y, zq_Z, zq_0, zq_1, zq_2, zq_3, zq_4, zq_5, ↓zq_6, ↓zq_7, ↓zq_8, ↓zq_9, ↓zq_aa, zq_ab, zq_ac, zq_ad, zq_ae, zq_af, zq_ag, ↓zq_ah, ↓zq_ai, ↓zq_aj, zq_ak, ↓zq_al, ↓zq_am, e_b1, e_b2, x_o1, x_o2, q', q2, k1, k2, k3, n2, w1, w2, c1, c1_n]
theorem hp_r_s {d : Nat} {c : Int} : hp_r P k (d + 1) u c = if P (u - 1) < P u ∧ hp_P P (hp_n P u) < P u then (if c = k then (u : Int) else hp_r P k d (u + 1) (c + 1)) else hp_r P k d (u + 1) c := rfl
theorem hp_23l (hk : -1 ≤ k) (hw : ∀ y : Nat, y ≤ 500 → ∀ z : Int, z = y → E_C 20 [170, z] M = some (P y, M)) : ∀ (t u : Nat) (x2 x3 x4 x5 : Int), 501 - u ≤ t → 1 ≤ u → u ≤ 501 → x4 = u → 0 ≤ x2 → x2 + 1 ≤ x4 → E_V 23 7 [170, k, x2, x3, x4, x5] M = some (hp_r P k (500 - u) u x2, M) := by
  intro t
  induction t with
  | zero =>
    intro u x2 x3 x4 x5 ht h1 h5 h4 h2 h22
    have q : ¬ (x4 < 500) := by omega
    rw [show 500 - u = 0 by omega]
    show _ = some (if k = -1 then x2 else -4, M)
    clear hw
    by_cases c : k = -1
    · have c1 : k < 0 := by omega
      rw [if_pos c]
      rw [E_V_eq]
      show e_tv E_C (E_V 23) e_t23_7 [170, k, x2, x3, x4, x5] M = _
      unfold e_t23_7
      simp [zq_a, zq_b, zq_c, zq_d, zq_e, zq_f, zq_g, zq_h, zq_i, zq_j, zq_k, zq_l, zq_m, zq_n, zq_o, zq_p, zq_q, zq_r, zq_s, zq_t, zq_u, zq_v, zq_w, zq_x, zq_y, zq_z, zq_A, zq_B, zq_C, zq_D, zq_E, zq_F, zq_G, zq_H, zq_I, zq_J, zq_K, zq_L, ↓zq_M, ↓zq_N, ↓zq_O, ↓zq_P, ↓zq_Q, ↓zq_R, zq_S, zq_T, zq_U, zq_V, zq_W, zq_X, zq_Y, zq_Z, zq_0, zq_1, zq_2, zq_3, zq_4, zq_5, ↓zq_6, ↓zq_7, ↓zq_8, ↓zq_9, ↓zq_aa, zq_ab, zq_ac, zq_ad, zq_ae, zq_af, zq_ag, ↓zq_ah, ↓zq_ai, ↓zq_aj, zq_ak, ↓zq_al, ↓zq_am, e_b1, e_b2, x_o1, x_o2, q, c1]
    · have c1 : ¬ (k < 0) := by omega
      rw [if_neg c]
      rw [E_V_eq]
      show e_tv E_C (E_V 23) e_t23_7 [170, k, x2, x3, x4, x5] M = _
      unfold e_t23_7
      simp [zq_a, zq_b, zq_c, zq_d, zq_e, zq_f, zq_g, zq_h, zq_i, zq_j, zq_k, zq_l, zq_m, zq_n, zq_o, zq_p, zq_q, zq_r, zq_s, zq_t, zq_u, zq_v, zq_w, zq_x, zq_y, zq_z, zq_A, zq_B, zq_C, zq_D, zq_E, zq_F, zq_G, zq_H, zq_I, zq_J, zq_K, zq_L, ↓zq_M, ↓zq_N, ↓zq_O, ↓zq_P, ↓zq_Q, ↓zq_R, zq_S, zq_T, zq_U, zq_V, zq_W, zq_X, zq_Y, zq_Z, zq_0, zq_1, zq_2, zq_3, zq_4, zq_5, ↓zq_6, ↓zq_7, ↓zq_8, ↓zq_9, ↓zq_aa, zq_ab, zq_ac, zq_ad, zq_ae, zq_af, zq_ag, ↓zq_ah, ↓zq_ai, ↓zq_aj, zq_ak, ↓zq_al, ↓zq_am, e_b1, e_b2, x_o1, x_o2, q, c1]
  | succ t ih =>
    intro u x2 x3 x4 x5 ht h1 h5 h4 h2 h22
    rcases Nat.lt_or_ge u 500 with c5 | c5
    · have q : x4 < 500 := by omega
      have w : e_w (x4 + 1) = x4 + 1 := a_w_id (by omega) (by omega)
      have s7 : E_V 23 7 [170, k, x2, x3, x4, x5] M = E_V 23 20 [170, k, x2, x4 + 1, x4, x5] M := by
        clear hw ih
        rw [E_V_eq]
        show e_tv E_C (E_V 23) e_t23_7 [170, k, x2, x3, x4, x5] M = _
        unfold e_t23_7
        simp [zq_a, zq_b, zq_c, zq_d, zq_e, zq_f, zq_g, zq_h, zq_i, zq_j, zq_k, zq_l, zq_m, zq_n, zq_o, zq_p, zq_q, zq_r, zq_s, zq_t, zq_u, zq_v, zq_w, zq_x, zq_y, zq_z, zq_A, zq_B, zq_C, zq_D, zq_E, zq_F, zq_G, zq_H, zq_I, zq_J, zq_K, zq_L, ↓zq_M, ↓zq_N, ↓zq_O, ↓zq_P, ↓zq_Q, ↓zq_R, zq_S, zq_T, zq_U, zq_V, zq_W, zq_X, zq_Y, zq_Z, zq_0, zq_1, zq_2, zq_3, zq_4, zq_5, ↓zq_6, ↓zq_7, ↓zq_8, ↓zq_9, ↓zq_aa, zq_ab, zq_ac, zq_ad, zq_ae, zq_af, zq_ag, ↓zq_ah, ↓zq_ai, ↓zq_aj, zq_ak, ↓zq_al, ↓zq_am, e_b1, e_b2, x_o1, x_o2, q, w]
      obtain ⟨⟨n1, n5⟩, n2⟩ := hp_n_in (P := P) (u := u) (by omega)
      have si := hp_23i (k := k) (x2 := x2) (x5 := x5) hw (by omega) h4 (500 - u) (u + 1) (x4 + 1) (by omega) (by omega)
      have si : E_V 23 20 [170, k, x2, x4 + 1, x4, x5] M = E_V 23 20 [170, k, x2, (hp_n P u : Int), x4, x5] M := si
      have se := hp_23e (k := k) (x2 := x2) (x5 := x5) hw h1 (by omega) h4 (nn := (hp_n P u : Int)) rfl n5 n2 ⟨h2, by omega⟩
      obtain ⟨d, hd⟩ : ∃ d, 500 - u = d + 1 := ⟨500 - u - 1, by omega⟩
      rw [s7, si, se, hd, hp_r_s]
      have lp : ∀ c, hp_r P k d (u + 1) c = hp_r P k (500 - hp_n P u) (hp_n P u) c := fun c => hp_leap (by omega) (hp_n P u - (u + 1)) d (u + 1) (by omega) (by omega) (by omega)
      by_cases c1 : P (u - 1) < P u ∧ hp_P P (hp_n P u) < P u
      · rw [if_pos c1, if_pos c1]
        by_cases c3 : x2 = k
        · rw [if_pos c3, if_pos c3, h4]
        · rw [if_neg c3, if_neg c3, lp]
          exact ih (hp_n P u) (x2 + 1) _ _ _ (by omega) (by omega) n5 rfl (by omega) (by omega)
      · rw [if_neg c1, if_neg c1, lp]
        exact ih (hp_n P u) x2 _ _ _ (by omega) (by omega) n5 rfl (by omega) (by omega)
    · have q : ¬ (x4 < 500) := by omega
      rw [show 500 - u = 0 by omega]
      show _ = some (if k = -1 then x2 else -4, M)
      clear hw ih
      by_cases c : k = -1
      · have c1 : k < 0 := by omega
        rw [if_pos c]
        rw [E_V_eq]
        show e_tv E_C (E_V 23) e_t23_7 [170, k, x2, x3, x4, x5] M = _
        unfold e_t23_7
        simp [zq_a, zq_b, zq_c, zq_d, zq_e, zq_f, zq_g, zq_h, zq_i, zq_j, zq_k, zq_l, zq_m, zq_n, zq_o, zq_p, zq_q, zq_r, zq_s, zq_t, zq_u, zq_v, zq_w, zq_x, zq_y, zq_z, zq_A, zq_B, zq_C, zq_D, zq_E, zq_F, zq_G, zq_H, zq_I, zq_J, zq_K, zq_L, ↓zq_M, ↓zq_N, ↓zq_O, ↓zq_P, ↓zq_Q, ↓zq_R, zq_S, zq_T, zq_U, zq_V, zq_W, zq_X, zq_Y, zq_Z, zq_0, zq_1, zq_2, zq_3, zq_4, zq_5, ↓zq_6, ↓zq_7, ↓zq_8, ↓zq_9, ↓zq_aa, zq_ab, zq_ac, zq_ad, zq_ae, zq_af, zq_ag, ↓zq_ah, ↓zq_ai, ↓zq_aj, zq_ak, ↓zq_al, ↓zq_am, e_b1, e_b2, x_o1, x_o2, q, c1]
      · have c1 : ¬ (k < 0) := by omega
        rw [if_neg c]
        rw [E_V_eq]
        show e_tv E_C (E_V 23) e_t23_7 [170, k, x2, x3, x4, x5] M = _
        unfold e_t23_7
        simp [zq_a, zq_b, zq_c, zq_d, zq_e, zq_f, zq_g, zq_h, zq_i, zq_j, zq_k, zq_l, zq_m, zq_n, zq_o, zq_p, zq_q, zq_r, zq_s, zq_t, zq_u, zq_v, zq_w, zq_x, zq_y, zq_z, zq_A, zq_B, zq_C, zq_D, zq_E, zq_F, zq_G, zq_H, zq_I, zq_J, zq_K, zq_L, ↓zq_M, ↓zq_N, ↓zq_O, ↓zq_P, ↓zq_Q, ↓zq_R, zq_S, zq_T, zq_U, zq_V, zq_W, zq_X, zq_Y, zq_Z, zq_0, zq_1, zq_2, zq_3, zq_4, zq_5, ↓zq_6, ↓zq_7, ↓zq_8, ↓zq_9, ↓zq_aa, zq_ab, zq_ac, zq_ad, zq_ae, zq_af, zq_ag, ↓zq_ah, ↓zq_ai, ↓zq_aj, zq_ak, ↓zq_al, ↓zq_am, e_b1, e_b2, x_o1, x_o2, q, c1]
theorem hp_23 (hk : -1 ≤ k) (hw : ∀ y : Nat, y ≤ 500 → ∀ z : Int, z = y → E_C 20 [170, z] M = some (P y, M)) : E_C 23 [170, k] M = some (hp_r P k 499 1 0, M) := by
  have s := hp_23l hk hw 500 1 0 0 1 0 (by decide) (by decide) (by decide) rfl (by decide) (by decide)
  have s : E_V 23 7 [170, k, 0, 0, 1, 0] M = some (hp_r P k 499 1 0, M) := s
  rw [r_ent (show e_rok 23 [170, k] = true from bx_r (M := M) rfl (by decide +kernel))]
  show e_tv E_C (E_V 23) e_t23_0 [170, k, 0, 0, 0, 0] M = _
  unfold e_t23_0
  simp [zq_a, zq_b, zq_c, zq_d, zq_e, zq_f, zq_g, zq_h, zq_i, zq_j, zq_k, zq_l, zq_m, zq_n, zq_o, zq_p, zq_q, zq_r, zq_s, zq_t, zq_u, zq_v, zq_w, zq_x, zq_y, zq_z, zq_A, zq_B, zq_C, zq_D, zq_E, zq_F, zq_G, zq_H, zq_I, zq_J, zq_K, zq_L, ↓zq_M, ↓zq_N, ↓zq_O, ↓zq_P, ↓zq_Q, ↓zq_R, zq_S, zq_T, zq_U, zq_V, zq_W, zq_X, zq_Y, zq_Z, zq_0, zq_1, zq_2, zq_3, zq_4, zq_5, ↓zq_6, ↓zq_7, ↓zq_8, ↓zq_9, ↓zq_aa, zq_ab, zq_ac, zq_ad, zq_ae, zq_af, zq_ag, ↓zq_ah, ↓zq_ai, ↓zq_aj, zq_ak, ↓zq_al, ↓zq_am, e_b1, e_b2, x_o1, x_o2, s]
/-- the reference's POWER -/
theorem hp_211 {s : Nat → Int} (hs : ∀ y : Nat, y ≤ 500 → M 205 y = s y) (hb : ∀ y : Nat, y ≤ 500 → 0 ≤ s y ∧ s y ≤ 1000) {y : Nat} {z : Int} (hz : z = y) (hy : y ≤ 501) : E_C 211 [192, z] M = some (hp_P (fun y => (y : Int) * s y) y, M) := by
  show _ = some (if 500 < y then 0 else (y : Int) * s y, M)
  rcases Nat.lt_or_ge 500 y with c | c
  · have q : 500 < z := by omega
    rw [if_pos c]
    clear hs hb
    rw [r_ent (show e_rok 211 [192, z] = true from decide_eq_true r_ref)]
    show e_tv E_C (E_V 211) e_t211_0 [192, z] M = _
    unfold e_t211_0
    simp [zq_a, zq_b, zq_c, zq_d, zq_e, zq_f, zq_g, zq_h, zq_i, zq_j, zq_k, zq_l, zq_m, zq_n, zq_o, zq_p, zq_q, zq_r, zq_s, zq_t, zq_u, zq_v, zq_w, zq_x, zq_y, zq_z, zq_A, zq_B, zq_C, zq_D, zq_E, zq_F, zq_G, zq_H, zq_I, zq_J, zq_K, zq_L, ↓zq_M, ↓zq_N, ↓zq_O, ↓zq_P, ↓zq_Q, ↓zq_R, zq_S, zq_T, zq_U, zq_V, zq_W, zq_X, zq_Y, zq_Z, zq_0, zq_1, zq_2, zq_3, zq_4, zq_5, ↓zq_6, ↓zq_7, ↓zq_8, ↓zq_9, ↓zq_aa, zq_ab, zq_ac, zq_ad, zq_ae, zq_af, zq_ag, ↓zq_ah, ↓zq_ai, ↓zq_aj, zq_ak, ↓zq_al, ↓zq_am, e_b1, e_b2, x_o1, x_o2, q]
  · have q : ¬ (500 < z) := by omega
    have l : e_op 60 [205, z] M = some (s y) := (r_rd5 (by omega) (by omega)).trans (by rw [show z.toNat = y by omega, hs y c])
    have pw := (bx_pw (u := z) (z := s y) ⟨by omega, by omega⟩ (hb y c)).1
    rw [if_neg (by omega), ← hz]
    clear hs hb
    rw [r_ent (show e_rok 211 [192, z] = true from decide_eq_true r_ref)]
    show e_tv E_C (E_V 211) e_t211_0 [192, z] M = _
    unfold e_t211_0
    simp [zq_a, zq_b, zq_c, zq_d, zq_e, zq_f, zq_g, zq_h, zq_i, zq_j, zq_k, zq_l, zq_m, zq_n, zq_o, zq_p, zq_q, zq_r, zq_s, zq_t, zq_u, zq_v, zq_w, zq_x, zq_y, zq_z, zq_A, zq_B, zq_C, zq_D, zq_E, zq_F, zq_G, zq_H, zq_I, zq_J, zq_K, zq_L, ↓zq_M, ↓zq_N, ↓zq_O, ↓zq_P, ↓zq_Q, ↓zq_R, zq_S, zq_T, zq_U, zq_V, zq_W, zq_X, zq_Y, zq_Z, zq_0, zq_1, zq_2, zq_3, zq_4, zq_5, ↓zq_6, ↓zq_7, ↓zq_8, ↓zq_9, ↓zq_aa, zq_ab, zq_ac, zq_ad, zq_ae, zq_af, zq_ag, ↓zq_ah, ↓zq_ai, ↓zq_aj, zq_ak, ↓zq_al, ↓zq_am, e_b1, e_b2, x_o1, x_o2, r_O25, q, l, pw]
/-- the reference: past equal POWERS -/
theorem hp_212i (hw : ∀ y : Nat, y ≤ 501 → ∀ z : Int, z = y → E_C 211 [192, z] M = some (hp_P P y, M)) (hu : u ≤ 499) (h4 : x4 = u) : ∀ (d y : Nat) (x5 : Int), x5 = y → y + d = 501 → E_V 212 59 [192, p, k, x3, x4, x5] M = E_V 212 59 [192, p, k, x3, x4, (hp_x P u d y : Int)] M := by
  intro d
  induction d with
  | zero => intro y x5 hx hy; rw [hx]; rfl
  | succ d ih =>
    intro y x5 hx hy
    have k1 := hw y (by omega) x5 hx
    have k2 := hw u (by omega) x4 h4
    have e1 : hp_P P y = P y := if_neg (by omega)
    have e2 : hp_P P u = P u := if_neg (by omega)
    rw [e1] at k1
    rw [e2] at k2
    show _ = E_V 212 59 [192, p, k, x3, x4, ((if P y = P u then hp_x P u d (y + 1) else y : Nat) : Int)] M
    by_cases e : P y = P u
    · rw [if_pos e, ← ih (y + 1) (x5 + 1) (by omega) (by omega)]
      have q : x5 ≤ 500 := by omega
      have w : e_w (x5 + 1) = x5 + 1 := a_w_id (by omega) (by omega)
      rw [e] at k1
      clear ih hw e e1 e2
      generalize P u = b at *
      rw [E_V_eq]
      show e_tv E_C (E_V 212) e_t212_59 [192, p, k, x3, x4, x5] M = _
      unfold e_t212_59
      simp [zq_a, zq_b, zq_c, zq_d, zq_e, zq_f, zq_g, zq_h, zq_i, zq_j, zq_k, zq_l, zq_m, zq_n, zq_o, zq_p, zq_q, zq_r, zq_s, zq_t, zq_u, zq_v, zq_w, zq_x, zq_y, zq_z, zq_A, zq_B, zq_C, zq_D, zq_E, zq_F, zq_G, zq_H, zq_I, zq_J, zq_K, zq_L, ↓zq_M, ↓zq_N, ↓zq_O, ↓zq_P, ↓zq_Q, ↓zq_R, zq_S, zq_T, zq_U, zq_V, zq_W, zq_X, zq_Y, zq_Z, zq_0, zq_1, zq_2, zq_3, zq_4, zq_5, ↓zq_6, ↓zq_7, ↓zq_8, ↓zq_9, ↓zq_aa, zq_ab, zq_ac, zq_ad, zq_ae, zq_af, zq_ag, ↓zq_ah, ↓zq_ai, ↓zq_aj, zq_ak, ↓zq_al, ↓zq_am, e_b1, e_b2, x_o1, x_o2, q, k1, k2, w]
    · rw [if_neg e, hx]
theorem hp_212l (hw : ∀ y : Nat, y ≤ 501 → ∀ z : Int, z = y → E_C 211 [192, z] M = some (hp_P P y, M)) : ∀ (d u : Nat) (x3 x4 x5 : Int), u + d = 500 → 1 ≤ u → x4 = u → 0 ≤ x3 → x3 + 1 ≤ x4 → E_V 212 25 [192, p, k, x3, x4, x5] M = some (hp_r P k d u x3, M) := by
  intro d
  induction d with
  | zero =>
    intro u x3 x4 x5 hd h1 h4 h3 h33
    have q : ¬ (x4 < 500) := by omega
    show _ = some (if k = -1 then x3 else -4, M)
    clear hw
    by_cases c : k = -1
    · rw [if_pos c]
      rw [E_V_eq]
      show e_tv E_C (E_V 212) e_t212_25 [192, p, k, x3, x4, x5] M = _
      unfold e_t212_25
      simp [zq_a, zq_b, zq_c, zq_d, zq_e, zq_f, zq_g, zq_h, zq_i, zq_j, zq_k, zq_l, zq_m, zq_n, zq_o, zq_p, zq_q, zq_r, zq_s, zq_t, zq_u, zq_v, zq_w, zq_x, zq_y, zq_z, zq_A, zq_B, zq_C, zq_D, zq_E, zq_F, zq_G, zq_H, zq_I, zq_J, zq_K, zq_L, ↓zq_M, ↓zq_N, ↓zq_O, ↓zq_P, ↓zq_Q, ↓zq_R, zq_S, zq_T, zq_U, zq_V, zq_W, zq_X, zq_Y, zq_Z, zq_0, zq_1, zq_2, zq_3, zq_4, zq_5, ↓zq_6, ↓zq_7, ↓zq_8, ↓zq_9, ↓zq_aa, zq_ab, zq_ac, zq_ad, zq_ae, zq_af, zq_ag, ↓zq_ah, ↓zq_ai, ↓zq_aj, zq_ak, ↓zq_al, ↓zq_am, e_b1, e_b2, x_o1, x_o2, q, c]
    · rw [if_neg c]
      rw [E_V_eq]
      show e_tv E_C (E_V 212) e_t212_25 [192, p, k, x3, x4, x5] M = _
      unfold e_t212_25
      simp [zq_a, zq_b, zq_c, zq_d, zq_e, zq_f, zq_g, zq_h, zq_i, zq_j, zq_k, zq_l, zq_m, zq_n, zq_o, zq_p, zq_q, zq_r, zq_s, zq_t, zq_u, zq_v, zq_w, zq_x, zq_y, zq_z, zq_A, zq_B, zq_C, zq_D, zq_E, zq_F, zq_G, zq_H, zq_I, zq_J, zq_K, zq_L, ↓zq_M, ↓zq_N, ↓zq_O, ↓zq_P, ↓zq_Q, ↓zq_R, zq_S, zq_T, zq_U, zq_V, zq_W, zq_X, zq_Y, zq_Z, zq_0, zq_1, zq_2, zq_3, zq_4, zq_5, ↓zq_6, ↓zq_7, ↓zq_8, ↓zq_9, ↓zq_aa, zq_ab, zq_ac, zq_ad, zq_ae, zq_af, zq_ag, ↓zq_ah, ↓zq_ai, ↓zq_aj, zq_ak, ↓zq_al, ↓zq_am, e_b1, e_b2, x_o1, x_o2, q, c]
  | succ d ih =>
    intro u x3 x4 x5 hd h1 h4 h3 h33
    have q : x4 < 500 := by omega
    have w : e_w (x4 + 1) = x4 + 1 := a_w_id (by omega) (by omega)
    have w2 : e_w (x3 + 1) = x3 + 1 := a_w_id (by omega) (by omega)
    have w3 : e_w (x4 - 1) = x4 - 1 := a_w_id (by omega) (by omega)
    have s117 : ∀ c x5, E_V 212 117 [192, p, k, c, x4, x5] M = E_V 212 25 [192, p, k, c, x4 + 1, x5] M := fun c x5 => by
      clear hw ih
      rw [E_V_eq]
      show e_tv E_C (E_V 212) e_t212_117 [192, p, k, c, x4, x5] M = _
      unfold e_t212_117
      simp [zq_a, zq_b, zq_c, zq_d, zq_e, zq_f, zq_g, zq_h, zq_i, zq_j, zq_k, zq_l, zq_m, zq_n, zq_o, zq_p, zq_q, zq_r, zq_s, zq_t, zq_u, zq_v, zq_w, zq_x, zq_y, zq_z, zq_A, zq_B, zq_C, zq_D, zq_E, zq_F, zq_G, zq_H, zq_I, zq_J, zq_K, zq_L, ↓zq_M, ↓zq_N, ↓zq_O, ↓zq_P, ↓zq_Q, ↓zq_R, zq_S, zq_T, zq_U, zq_V, zq_W, zq_X, zq_Y, zq_Z, zq_0, zq_1, zq_2, zq_3, zq_4, zq_5, ↓zq_6, ↓zq_7, ↓zq_8, ↓zq_9, ↓zq_aa, zq_ab, zq_ac, zq_ad, zq_ae, zq_af, zq_ag, ↓zq_ah, ↓zq_ai, ↓zq_aj, zq_ak, ↓zq_al, ↓zq_am, e_b1, e_b2, x_o1, x_o2, w]
    have go : ∀ c x5, 0 ≤ c → c + 1 ≤ x4 + 1 → E_V 212 117 [192, p, k, c, x4, x5] M = some (hp_r P k d (u + 1) c, M) := fun c x5 c1 c2 => by
      rw [s117]
      exact ih (u + 1) c (x4 + 1) x5 (by omega) (by omega) (by omega) c1 c2
    have k1 := hw u (by omega) x4 h4
    have k2 := hw (u - 1) (by omega) (x4 - 1) (by omega)
    have e1 : hp_P P u = P u := if_neg (by omega)
    have e2 : hp_P P (u - 1) = P (u - 1) := if_neg (by omega)
    rw [e1] at k1
    rw [e2] at k2
    obtain ⟨⟨n1, n5⟩, n2⟩ := hp_n_in (P := P) (u := u) (by omega)
    have k3 := hw (hp_n P u) n5 _ rfl
    have si := hp_212i (p := p) (k := k) (x3 := x3) hw (by omega) h4 (500 - u) (u + 1) (x4 + 1) (by omega) (by omega)
    have si : E_V 212 59 [192, p, k, x3, x4, x4 + 1] M = E_V 212 59 [192, p, k, x3, x4, (hp_n P u : Int)] M := si
    have g0 := go x3 x5 h3 (by omega)
    have g1 := go x3 (hp_n P u : Int) h3 (by omega)
    have g2 := go (x3 + 1) (hp_n P u : Int) (by omega) (by omega)
    have e3 : hp_n P u ≤ 500 → hp_P P (hp_n P u) ≠ P u := fun h => by
      rw [show hp_P P (hp_n P u) = P (hp_n P u) from if_neg (by omega)]
      exact n2 h
    rw [hp_r_s]
    clear hw ih s117 go e1 e2 n2
    revert k1 k2 k3 e3
    generalize P u = b
    generalize P (u - 1) = a
    generalize hp_P P (hp_n P u) = c
    intro k1 k2 k3 e3
    -- at the first other POWER
    have s59 : E_V 212 59 [192, p, k, x3, x4, (hp_n P u : Int)] M = if c < b then (if x3 = k then some (x4, M) else some (hp_r P k d (u + 1) (x3 + 1), M)) else some (hp_r P k d (u + 1) x3, M) := by
      revert k3 g1 g2 si
      obtain ⟨nn, hnn⟩ : ∃ nn : Int, (hp_n P u : Int) = nn := ⟨_, rfl⟩
      rw [hnn]
      intro si g1 g2 k3
      have cc : nn ≤ 500 ∧ c ≠ b ∨ ¬ (nn ≤ 500) := by
        rcases x_le nn 500 with ⟨h, h_n⟩ | ⟨h, h_n⟩
        · exact Or.inl ⟨h, e3 (by omega)⟩
        · exact Or.inr h
      rcases cc with ⟨cc, cb⟩ | cc
      · rcases x_lt c b with ⟨c2, c2_n⟩ | ⟨c2, c2_n⟩
        · rw [if_pos c2]
          by_cases c3 : x3 = k
          · rw [if_pos c3]
            rw [E_V_eq]
            show e_tv E_C (E_V 212) e_t212_59 [192, p, k, x3, x4, nn] M = _
            unfold e_t212_59
            simp [zq_a, zq_b, zq_c, zq_d, zq_e, zq_f, zq_g, zq_h, zq_i, zq_j, zq_k, zq_l, zq_m, zq_n, zq_o, zq_p, zq_q, zq_r, zq_s, zq_t, zq_u, zq_v, zq_w, zq_x, zq_y, zq_z, zq_A, zq_B, zq_C, zq_D, zq_E, zq_F, zq_G, zq_H, zq_I, zq_J, zq_K, zq_L, ↓zq_M, ↓zq_N, ↓zq_O, ↓zq_P, ↓zq_Q, ↓zq_R, zq_S, zq_T, zq_U, zq_V, zq_W, zq_X, zq_Y, zq_Z, zq_0, zq_1, zq_2, zq_3, zq_4, zq_5, ↓zq_6, ↓zq_7, ↓zq_8, ↓zq_9, ↓zq_aa, zq_ab, zq_ac, zq_ad, zq_ae, zq_af, zq_ag, ↓zq_ah, ↓zq_ai, ↓zq_aj, zq_ak, ↓zq_al, ↓zq_am, e_b1, e_b2, x_o1, x_o2, cc, cb, k1, k3, c2, c2_n, c3]
          · rw [if_neg c3, ← g2]
            rw [E_V_eq]
            show e_tv E_C (E_V 212) e_t212_59 [192, p, k, x3, x4, nn] M = _
            unfold e_t212_59
            simp [zq_a, zq_b, zq_c, zq_d, zq_e, zq_f, zq_g, zq_h, zq_i, zq_j, zq_k, zq_l, zq_m, zq_n, zq_o, zq_p, zq_q, zq_r, zq_s, zq_t, zq_u, zq_v, zq_w, zq_x, zq_y, zq_z, zq_A, zq_B, zq_C, zq_D, zq_E, zq_F, zq_G, zq_H, zq_I, zq_J, zq_K, zq_L, ↓zq_M, ↓zq_N, ↓zq_O, ↓zq_P, ↓zq_Q, ↓zq_R, zq_S, zq_T, zq_U, zq_V, zq_W, zq_X, zq_Y, zq_Z, zq_0, zq_1, zq_2, zq_3, zq_4, zq_5, ↓zq_6, ↓zq_7, ↓zq_8, ↓zq_9, ↓zq_aa, zq_ab, zq_ac, zq_ad, zq_ae, zq_af, zq_ag, ↓zq_ah, ↓zq_ai, ↓zq_aj, zq_ak, ↓zq_al, ↓zq_am, e_b1, e_b2, x_o1, x_o2, cc, cb, k1, k3, c2, c2_n, c3, w2]
        · rw [if_neg c2, ← g1]
          rw [E_V_eq]
          show e_tv E_C (E_V 212) e_t212_59 [192, p, k, x3, x4, nn] M = _
          unfold e_t212_59
          simp [zq_a, zq_b, zq_c, zq_d, zq_e, zq_f, zq_g, zq_h, zq_i, zq_j, zq_k, zq_l, zq_m, zq_n, zq_o, zq_p, zq_q, zq_r, zq_s, zq_t, zq_u, zq_v, zq_w, zq_x, zq_y, zq_z, zq_A, zq_B, zq_C, zq_D, zq_E, zq_F, zq_G, zq_H, zq_I, zq_J, zq_K, zq_L, ↓zq_M, ↓zq_N, ↓zq_O, ↓zq_P, ↓zq_Q, ↓zq_R, zq_S, zq_T, zq_U, zq_V, zq_W, zq_X, zq_Y, zq_Z, zq_0, zq_1, zq_2, zq_3, zq_4, zq_5, ↓zq_6, ↓zq_7, ↓zq_8, ↓zq_9, ↓zq_aa, zq_ab, zq_ac, zq_ad, zq_ae, zq_af, zq_ag, ↓zq_ah, ↓zq_ai, ↓zq_aj, zq_ak, ↓zq_al, ↓zq_am, e_b1, e_b2, x_o1, x_o2, cc, cb, k1, k3, c2, c2_n]
      · rcases x_lt c b with ⟨c2, c2_n⟩ | ⟨c2, c2_n⟩
        · rw [if_pos c2]
          by_cases c3 : x3 = k
          · rw [if_pos c3]
            rw [E_V_eq]
            show e_tv E_C (E_V 212) e_t212_59 [192, p, k, x3, x4, nn] M = _
            unfold e_t212_59
            simp [zq_a, zq_b, zq_c, zq_d, zq_e, zq_f, zq_g, zq_h, zq_i, zq_j, zq_k, zq_l, zq_m, zq_n, zq_o, zq_p, zq_q, zq_r, zq_s, zq_t, zq_u, zq_v, zq_w, zq_x, zq_y, zq_z, zq_A, zq_B, zq_C, zq_D, zq_E, zq_F, zq_G, zq_H, zq_I, zq_J, zq_K, zq_L, ↓zq_M, ↓zq_N, ↓zq_O, ↓zq_P, ↓zq_Q, ↓zq_R, zq_S, zq_T, zq_U, zq_V, zq_W, zq_X, zq_Y, zq_Z, zq_0, zq_1, zq_2, zq_3, zq_4, zq_5, ↓zq_6, ↓zq_7, ↓zq_8, ↓zq_9, ↓zq_aa, zq_ab, zq_ac, zq_ad, zq_ae, zq_af, zq_ag, ↓zq_ah, ↓zq_ai, ↓zq_aj, zq_ak, ↓zq_al, ↓zq_am, e_b1, e_b2, x_o1, x_o2, cc, k1, k3, c2, c2_n, c3]
          · rw [if_neg c3, ← g2]
            rw [E_V_eq]
            show e_tv E_C (E_V 212) e_t212_59 [192, p, k, x3, x4, nn] M = _
            unfold e_t212_59
            simp [zq_a, zq_b, zq_c, zq_d, zq_e, zq_f, zq_g, zq_h, zq_i, zq_j, zq_k, zq_l, zq_m, zq_n, zq_o, zq_p, zq_q, zq_r, zq_s, zq_t, zq_u, zq_v, zq_w, zq_x, zq_y, zq_z, zq_A, zq_B, zq_C, zq_D, zq_E, zq_F, zq_G, zq_H, zq_I, zq_J, zq_K, zq_L, ↓zq_M, ↓zq_N, ↓zq_O, ↓zq_P, ↓zq_Q, ↓zq_R, zq_S, zq_T, zq_U, zq_V, zq_W, zq_X, zq_Y, zq_Z, zq_0, zq_1, zq_2, zq_3, zq_4, zq_5, ↓zq_6, ↓zq_7, ↓zq_8, ↓zq_9, ↓zq_aa, zq_ab, zq_ac, zq_ad, zq_ae, zq_af, zq_ag, ↓zq_ah, ↓zq_ai, ↓zq_aj, zq_ak, ↓zq_al, ↓zq_am, e_b1, e_b2, x_o1, x_o2, cc, k1, k3, c2, c2_n, c3, w2]
        · rw [if_neg c2, ← g1]
          rw [E_V_eq]
          show e_tv E_C (E_V 212) e_t212_59 [192, p, k, x3, x4, nn] M = _
          unfold e_t212_59
          simp [zq_a, zq_b, zq_c, zq_d, zq_e, zq_f, zq_g, zq_h, zq_i, zq_j, zq_k, zq_l, zq_m, zq_n, zq_o, zq_p, zq_q, zq_r, zq_s, zq_t, zq_u, zq_v, zq_w, zq_x, zq_y, zq_z, zq_A, zq_B, zq_C, zq_D, zq_E, zq_F, zq_G, zq_H, zq_I, zq_J, zq_K, zq_L, ↓zq_M, ↓zq_N, ↓zq_O, ↓zq_P, ↓zq_Q, ↓zq_R, zq_S, zq_T, zq_U, zq_V, zq_W, zq_X, zq_Y, zq_Z, zq_0, zq_1, zq_2, zq_3, zq_4, zq_5, ↓zq_6, ↓zq_7, ↓zq_8, ↓zq_9, ↓zq_aa, zq_ab, zq_ac, zq_ad, zq_ae, zq_af, zq_ag, ↓zq_ah, ↓zq_ai, ↓zq_aj, zq_ak, ↓zq_al, ↓zq_am, e_b1, e_b2, x_o1, x_o2, cc, k1, k3, c2, c2_n]
    rcases x_lt a b with ⟨c1, c1_n⟩ | ⟨c1, c1_n⟩
    · have e : E_V 212 25 [192, p, k, x3, x4, x5] M = E_V 212 59 [192, p, k, x3, x4, x4 + 1] M := by
        rw [E_V_eq]
        show e_tv E_C (E_V 212) e_t212_25 [192, p, k, x3, x4, x5] M = _
        unfold e_t212_25
        simp [zq_a, zq_b, zq_c, zq_d, zq_e, zq_f, zq_g, zq_h, zq_i, zq_j, zq_k, zq_l, zq_m, zq_n, zq_o, zq_p, zq_q, zq_r, zq_s, zq_t, zq_u, zq_v, zq_w, zq_x, zq_y, zq_z, zq_A, zq_B, zq_C, zq_D, zq_E, zq_F, zq_G, zq_H, zq_I, zq_J, zq_K, zq_L, ↓zq_M, ↓zq_N, ↓zq_O, ↓zq_P, ↓zq_Q, ↓zq_R, zq_S, zq_T, zq_U, zq_V, zq_W, zq_X, zq_Y, zq_Z, zq_0, zq_1, zq_2, zq_3, zq_4, zq_5, ↓zq_6, ↓zq_7, ↓zq_8, ↓zq_9, ↓zq_aa, zq_ab, zq_ac, zq_ad, zq_ae, zq_af, zq_ag, ↓zq_ah, ↓zq_ai, ↓zq_aj, zq_ak, ↓zq_al, ↓zq_am, e_b1, e_b2, x_o1, x_o2, q, k1, k2, w, w3, c1, c1_n]
      rw [e, si, s59]
      rcases x_lt c b with ⟨c2, c2_n⟩ | ⟨c2, c2_n⟩
      · rw [if_pos (show a < b ∧ c < b from ⟨c1, c2⟩), if_pos c2]
        by_cases c3 : x3 = k
        · rw [if_pos c3, if_pos c3, h4]
        · rw [if_neg c3, if_neg c3]
      · rw [if_neg (show ¬ (a < b ∧ c < b) from fun e => c2 e.2), if_neg c2]
    · rw [if_neg (show ¬ (a < b ∧ c < b) from fun e => c1 e.1), ← g0]
      rw [E_V_eq]
      show e_tv E_C (E_V 212) e_t212_25 [192, p, k, x3, x4, x5] M = _
      unfold e_t212_25
      simp [zq_a, zq_b, zq_c, zq_d, zq_e, zq_f, zq_g, zq_h, zq_i, zq_j, zq_k, zq_l, zq_m, zq_n, zq_o, zq_p, zq_q, zq_r, zq_s, zq_t, zq_u, zq_v, zq_w, zq_x, zq_y, zq_z, zq_A, zq_B, zq_C, zq_D, zq_E, zq_F, zq_G, zq_H, zq_I, zq_J, zq_K, zq_L, ↓zq_M, ↓zq_N, ↓zq_O, ↓zq_P, ↓zq_Q, ↓zq_R, zq_S, zq_T, zq_U, zq_V, zq_W, zq_X, zq_Y, zq_Z, zq_0, zq_1, zq_2, zq_3, zq_4, zq_5, ↓zq_6, ↓zq_7, ↓zq_8, ↓zq_9, ↓zq_aa, zq_ab, zq_ac, zq_ad, zq_ae, zq_af, zq_ag, ↓zq_ah, ↓zq_ai, ↓zq_aj, zq_ak, ↓zq_al, ↓zq_am, e_b1, e_b2, x_o1, x_o2, q, k1, k2, w, w3, c1, c1_n]
end HQ
section AXH
variable {M M1 M2 : EM} {p w r1 r2 : Int}
def ax_P (g : Int → Int) (p : Int) (u : Nat) : Int := (u : Int) * ax_S g p (u : Int)
theorem ax_112 (h : hd_all M) : ∃ r M', E_C 112 [8, p, w] M = some (r, M') ∧ M' 171 0 = 0 ∧ r = if (0 ≤ p ∧ p < r_G M 1198) ∧ -1 ≤ w then hp_r (ax_P (r_G M) p) w 499 1 0 else -1 := by
  have h10 : M 10 0 = r_G M 1198 := h.1.1
  have i := h_149 (k := p) (M := M)
  rw [h10] at i
  have s0 : E_C 112 [8, p, w] M = e_tv E_C (E_V 112) e_t112_0 [8, p, w] M := r_ent (u := 112) (as := [8, p, w]) (M := M) (decide_eq_true c_this)
  rw [s0]
  unfold e_t112_0
  by_cases c : 0 ≤ p ∧ p < r_G M 1198
  · rw [if_pos c] at i
    rcases x_lt w (-1) with ⟨c0, c0_n⟩ | ⟨c0, c0_n⟩
    · refine ⟨-1, M, ?_, h.2.2.2, (if_neg (fun e => by omega)).symm⟩
      simp [zq_a, zq_b, zq_c, zq_d, zq_e, zq_f, zq_g, zq_h, zq_i, zq_j, zq_k, zq_l, zq_m, zq_n, zq_o, zq_p, zq_q, zq_r, zq_s, zq_t, zq_u, zq_v, zq_w, zq_x, zq_y, zq_z, zq_A, zq_B, zq_C, zq_D, zq_E, zq_F, zq_G, zq_H, zq_I, zq_J, zq_K, zq_L, ↓zq_M, ↓zq_N, ↓zq_O, ↓zq_P, ↓zq_Q, ↓zq_R, zq_S, zq_T, zq_U, zq_V, zq_W, zq_X, zq_Y, zq_Z, zq_0, zq_1, zq_2, zq_3, zq_4, zq_5, ↓zq_6, ↓zq_7, ↓zq_8, ↓zq_9, ↓zq_aa, zq_ab, zq_ac, zq_ad, zq_ae, zq_af, zq_ag, ↓zq_ah, ↓zq_ai, ↓zq_aj, zq_ak, ↓zq_al, ↓zq_am, e_b1, e_b2, x_o1, x_o2, i, c0, c0_n]
    · obtain ⟨q, rfl⟩ : ∃ q : Nat, p = q := ⟨p.toNat, by omega⟩
      obtain ⟨N, M', k, m, m6, ms, m2, m1, -, m0, mb⟩ := ax_fb h c.2
      have L6 := (ax_L6 h (q : Int)).resolve_right (fun e => e c)
      have SB : ∀ u : Int, 0 ≤ ax_S (r_G M) (q : Int) u ∧ ax_S (r_G M) (q : Int) u ≤ 600 := fun u => bx_s_bd L6
      have hw : ∀ y : Nat, y ≤ 500 → ∀ z : Int, z = y → E_C 20 [170, z] M' = some (ax_P (r_G M) (q : Int) y, M') := fun y hy z hz => by
        have e := ms y hy
        have sb := SB (y : Int)
        have t := bx_20 (M := M') (u := z) (k := y) m6 hz (by omega) (by rw [e]; omega)
        rw [e, hz] at t
        rw [hz]
        exact t
      have e := hp_23 (k := w) (by omega) hw
      rw [if_pos ⟨c, by omega⟩]
      refine ⟨_, M', ?_, m0, rfl⟩
      clear hw SB ms mb
      generalize hp_r (ax_P (r_G M) (q : Int)) w 499 1 0 = z at e ⊢
      simp [zq_a, zq_b, zq_c, zq_d, zq_e, zq_f, zq_g, zq_h, zq_i, zq_j, zq_k, zq_l, zq_m, zq_n, zq_o, zq_p, zq_q, zq_r, zq_s, zq_t, zq_u, zq_v, zq_w, zq_x, zq_y, zq_z, zq_A, zq_B, zq_C, zq_D, zq_E, zq_F, zq_G, zq_H, zq_I, zq_J, zq_K, zq_L, ↓zq_M, ↓zq_N, ↓zq_O, ↓zq_P, ↓zq_Q, ↓zq_R, zq_S, zq_T, zq_U, zq_V, zq_W, zq_X, zq_Y, zq_Z, zq_0, zq_1, zq_2, zq_3, zq_4, zq_5, ↓zq_6, ↓zq_7, ↓zq_8, ↓zq_9, ↓zq_aa, zq_ab, zq_ac, zq_ad, zq_ae, zq_af, zq_ag, ↓zq_ah, ↓zq_ai, ↓zq_aj, zq_ak, ↓zq_al, ↓zq_am, e_b1, e_b2, x_o1, x_o2, ax_bench, i, c0, c0_n, k, m, e]
  · rw [if_neg c] at i
    refine ⟨-1, M, ?_, h.2.2.2, (if_neg (fun e => c e.1)).symm⟩
    simp [zq_a, zq_b, zq_c, zq_d, zq_e, zq_f, zq_g, zq_h, zq_i, zq_j, zq_k, zq_l, zq_m, zq_n, zq_o, zq_p, zq_q, zq_r, zq_s, zq_t, zq_u, zq_v, zq_w, zq_x, zq_y, zq_z, zq_A, zq_B, zq_C, zq_D, zq_E, zq_F, zq_G, zq_H, zq_I, zq_J, zq_K, zq_L, ↓zq_M, ↓zq_N, ↓zq_O, ↓zq_P, ↓zq_Q, ↓zq_R, zq_S, zq_T, zq_U, zq_V, zq_W, zq_X, zq_Y, zq_Z, zq_0, zq_1, zq_2, zq_3, zq_4, zq_5, ↓zq_6, ↓zq_7, ↓zq_8, ↓zq_9, ↓zq_aa, zq_ab, zq_ac, zq_ad, zq_ae, zq_af, zq_ag, ↓zq_ah, ↓zq_ai, ↓zq_aj, zq_ak, ↓zq_al, ↓zq_am, e_b1, e_b2, x_o1, x_o2, i]
theorem ax_212 {g : Int → Int} (hG : r_G M1 = g) (J1 : r_J M1) (K1 : rx_K M1) (hcs : hd_cs g) (hcv : hd_cvs g) (hB6 : ∀ p, cu_nl g (cu_in g p) ≤ 6 ∨ ¬ (0 ≤ p ∧ p < g 1198)) : ∃ r M', E_C 212 [192, p, w] M1 = some (r, M') ∧ r = if (0 ≤ p ∧ p < g 1198) ∧ -1 ≤ w then hp_r (ax_P g p) w 499 1 0 else -1 := by
  have hW := (r_J_E J1).2.1
  by_cases c : 0 ≤ p ∧ p < g 1198
  · have ip := r_ip1 hW (by rw [hG]; exact c)
    rcases x_lt w (-1) with ⟨cw, cw_n⟩ | ⟨cw, cw_n⟩
    · refine ⟨-1, M1, ?_, (if_neg (fun e => by omega)).symm⟩
      rw [r_ent (show e_rok 212 [192, p, w] = true from decide_eq_true r_ref)]
      show e_tv E_C (E_V 212) e_t212_0 [192, p, w, 0, 0, 0] M1 = _
      unfold e_t212_0
      simp [zq_a, zq_b, zq_c, zq_d, zq_e, zq_f, zq_g, zq_h, zq_i, zq_j, zq_k, zq_l, zq_m, zq_n, zq_o, zq_p, zq_q, zq_r, zq_s, zq_t, zq_u, zq_v, zq_w, zq_x, zq_y, zq_z, zq_A, zq_B, zq_C, zq_D, zq_E, zq_F, zq_G, zq_H, zq_I, zq_J, zq_K, zq_L, ↓zq_M, ↓zq_N, ↓zq_O, ↓zq_P, ↓zq_Q, ↓zq_R, zq_S, zq_T, zq_U, zq_V, zq_W, zq_X, zq_Y, zq_Z, zq_0, zq_1, zq_2, zq_3, zq_4, zq_5, ↓zq_6, ↓zq_7, ↓zq_8, ↓zq_9, ↓zq_aa, zq_ab, zq_ac, zq_ad, zq_ae, zq_af, zq_ag, ↓zq_ah, ↓zq_ai, ↓zq_aj, zq_ak, ↓zq_al, ↓zq_am, e_b1, e_b2, x_o1, x_o2, ip, cw, cw_n]
    · obtain ⟨q, rfl⟩ : ∃ q : Nat, p = q := ⟨p.toNat, by omega⟩
      obtain ⟨M', k, sm, hs⟩ := ax_gives hG J1 K1 hcs hcv c.2
      have L6 := (hB6 (q : Int)).resolve_right (fun e => e c)
      have sb : ∀ u : Int, 0 ≤ ax_S g (q : Int) u ∧ ax_S g (q : Int) u ≤ 600 := fun u => bx_s_bd L6
      have hw : ∀ y : Nat, y ≤ 501 → ∀ z : Int, z = y → E_C 211 [192, z] M' = some (hp_P (ax_P g (q : Int)) y, M') := fun y hy z hz => hp_211 (s := fun y => ax_S g (q : Int) (y : Int)) (fun y hy => hs y (by omega)) (fun y _ => ⟨(sb y).1, by have := (sb y).2; omega⟩) hz hy
      have e := hp_212l (p := (q : Int)) (k := w) hw 499 1 0 1 0 rfl (by decide) rfl (by decide) (by decide)
      rw [if_pos ⟨c, by omega⟩]
      refine ⟨_, M', ?_, rfl⟩
      clear hw sb hs
      generalize hp_r (ax_P g (q : Int)) w 499 1 0 = z at e ⊢
      rw [r_ent (show e_rok 212 [192, (q : Int), w] = true from decide_eq_true r_ref)]
      show e_tv E_C (E_V 212) e_t212_0 [192, (q : Int), w, 0, 0, 0] M1 = _
      unfold e_t212_0
      simp [zq_a, zq_b, zq_c, zq_d, zq_e, zq_f, zq_g, zq_h, zq_i, zq_j, zq_k, zq_l, zq_m, zq_n, zq_o, zq_p, zq_q, zq_r, zq_s, zq_t, zq_u, zq_v, zq_w, zq_x, zq_y, zq_z, zq_A, zq_B, zq_C, zq_D, zq_E, zq_F, zq_G, zq_H, zq_I, zq_J, zq_K, zq_L, ↓zq_M, ↓zq_N, ↓zq_O, ↓zq_P, ↓zq_Q, ↓zq_R, zq_S, zq_T, zq_U, zq_V, zq_W, zq_X, zq_Y, zq_Z, zq_0, zq_1, zq_2, zq_3, zq_4, zq_5, ↓zq_6, ↓zq_7, ↓zq_8, ↓zq_9, ↓zq_aa, zq_ab, zq_ac, zq_ad, zq_ae, zq_af, zq_ag, ↓zq_ah, ↓zq_ai, ↓zq_aj, zq_ak, ↓zq_al, ↓zq_am, e_b1, e_b2, x_o1, x_o2, ip, cw, cw_n, k, e]
  · have ip := r_ip0 hW (show ¬ (0 ≤ p ∧ p < r_G M1 1198) by rw [hG]; exact c)
    refine ⟨-1, M1, ?_, (if_neg (fun e => c e.1)).symm⟩
    rw [r_ent (show e_rok 212 [192, p, w] = true from decide_eq_true r_ref)]
    show e_tv E_C (E_V 212) e_t212_0 [192, p, w, 0, 0, 0] M1 = _
    unfold e_t212_0
    simp [zq_a, zq_b, zq_c, zq_d, zq_e, zq_f, zq_g, zq_h, zq_i, zq_j, zq_k, zq_l, zq_m, zq_n, zq_o, zq_p, zq_q, zq_r, zq_s, zq_t, zq_u, zq_v, zq_w, zq_x, zq_y, zq_z, zq_A, zq_B, zq_C, zq_D, zq_E, zq_F, zq_G, zq_H, zq_I, zq_J, zq_K, zq_L, ↓zq_M, ↓zq_N, ↓zq_O, ↓zq_P, ↓zq_Q, ↓zq_R, zq_S, zq_T, zq_U, zq_V, zq_W, zq_X, zq_Y, zq_Z, zq_0, zq_1, zq_2, zq_3, zq_4, zq_5, ↓zq_6, ↓zq_7, ↓zq_8, ↓zq_9, ↓zq_aa, zq_ab, zq_ac, zq_ad, zq_ae, zq_af, zq_ag, ↓zq_ah, ↓zq_ai, ↓zq_aj, zq_ak, ↓zq_al, ↓zq_am, e_b1, e_b2, x_o1, x_o2, ip]
theorem ax_hump (h : hd_all M) (J1 : r_J M1) (K1 : rx_K M1) (hfr : ∀ i, M1 193 i = M 193 i) (k1 : E_C 112 [8, p, w] M = some (r1, M1)) (k2 : E_C 212 [192, p, w] M1 = some (r2, M2)) : r1 = r2 ∧ M1 171 0 = 0 := by
  have eG : r_G M1 = r_G M := funext fun i => hfr _
  obtain ⟨r, M', a1, a2, a3⟩ := ax_112 (p := p) (w := w) h
  obtain ⟨r', M'', b1, b3⟩ := ax_212 (p := p) (w := w) eG J1 K1 (hd_cs_of h.2.1) (hd_cvs_of h.2.2.1) (ax_L6 h)
  obtain ⟨e1, e2⟩ := Prod.mk.inj (Option.some.inj (k1.symm.trans a1))
  obtain ⟨f1, f2⟩ := Prod.mk.inj (Option.some.inj (k2.symm.trans b1))
  exact ⟨by rw [e1, f1, a3, b3], by rw [e2]; exact a2⟩
end AXH
