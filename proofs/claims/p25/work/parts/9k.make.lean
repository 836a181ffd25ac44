section
/-! a STATEMENT made by the reference: part p is new, g0 was the row ahead of it -/
def r_mk (p kd : Int) (g0 : Int → Int) (M0 M : EM) : Prop := a_M M ∧ (∀ id k, id ≠ 193 → ¬ (id = 192 ∧ (k = 15 ∨ k = 18)) → M id k = M0 id k) ∧ (∀ i, 0 ≤ i → i < 28 * p → i % 28 ≠ 1 → r_G M i = g0 i) ∧ (∀ i, 28 * p + 28 ≤ i → r_G M i = g0 i) ∧ r_G M (28 * p) = kd ∧ (kd = 0 → r_G M (28 * p + 20) = 0) ∧ (kd = 3 → r_G M (28 * p + 4) = 0) ∧ r_N99 M
section RMK
variable {p kd : Int} {g0 : Int → Int} {M0 M M' : EM}
theorem r_mk_w {i v : Int} (h : r_mk p kd g0 M0 M) (hp : 0 ≤ p) (hi : 28 * p < i ∧ i < 28 * p + 28) (h0 : kd = 0 → i ≠ 28 * p + 20) (h3 : kd = 3 → i ≠ 28 * p + 4) (hv : -2147483648 ≤ v ∧ v ≤ 2147483647) : r_mk p kd g0 M0 (e_up M 193 i.toNat v) := by
  obtain ⟨a1, a2, a3, a4, a5, a6, a7, a8⟩ := h
  refine ⟨r_upw hv a1, fun id k h1 h2 => (r_n193 h1).trans (a2 id k h1 h2), fun j j0 j1 j2 => (r_G_n (by omega) (by omega)).trans (a3 j j0 j1 j2), fun j hj => (r_G_n (by omega) (by omega)).trans (a4 j hj), (r_G_n (by omega) (by omega)).trans a5, fun hk => (r_G_n (by omega) (fun e => h0 hk e.symm)).trans (a6 hk), fun hk => (r_G_n (by omega) (fun e => h3 hk e.symm)).trans (a7 hk), ?_⟩
  unfold r_N99
  rw [r_n193 (by decide)]
  exact a8
theorem r_mk_o {q v : Int} (h : r_mk p kd g0 M0 M) (hq : 0 ≤ q ∧ q < p) (hv : -2147483648 ≤ v ∧ v ≤ 2147483647) : r_mk p kd g0 M0 (e_up M 193 (28 * q + 1).toNat v) := by
  obtain ⟨a1, a2, a3, a4, a5, a6, a7, a8⟩ := h
  refine ⟨r_upw hv a1, fun id k h1 h2 => (r_n193 h1).trans (a2 id k h1 h2), fun j j0 j1 j2 => (r_G_n (by omega) (by omega)).trans (a3 j j0 j1 j2), fun j hj => (r_G_n (by omega) (by omega)).trans (a4 j hj), (r_G_n (by omega) (by omega)).trans a5, fun hk => (r_G_n (by omega) (by omega)).trans (a6 hk), fun hk => (r_G_n (by omega) (by omega)).trans (a7 hk), ?_⟩
  unfold r_N99
  rw [r_n193 (by decide)]
  exact a8
theorem r_mk_t (h : r_mk p kd g0 M0 M) (t : r_tt M M') : r_mk p kd g0 M0 M' := by
  obtain ⟨a1, a2, a3, a4, a5, a6, a7, a8⟩ := h
  obtain ⟨b1, b2, b3, b4, b5⟩ := t
  have eG : r_G M' = r_G M := funext fun i => b2 _ _ (by omega)
  exact ⟨b1, fun id k h1 h2 => (b2 id k h2).trans (a2 id k h1 h2), by rw [eG]; exact a3, by rw [eG]; exact a4, by rw [eG]; exact a5, by rw [eG]; exact a6, by rw [eG]; exact a7, b5 a8⟩
theorem r_mk_p {v : Int} (h : r_mk p kd g0 M0 M) (hv : -2147483648 ≤ v ∧ v ≤ 2147483647) : r_mk p kd g0 M0 (e_up M 192 15 v) := by
  obtain ⟨a1, a2, a3, a4, a5, a6, a7, a8⟩ := h
  have eG : r_G (e_up M 192 15 v) = r_G M := r_up_Gne (by decide)
  refine ⟨r_up (by decide) (by decide +kernel) (by decide +kernel) hv a1, fun id k h1 h2 => (c_up_n (fun hc => h2 ⟨hc.1, Or.inl hc.2⟩)).trans (a2 id k h1 h2), by rw [eG]; exact a3, by rw [eG]; exact a4, by rw [eG]; exact a5, by rw [eG]; exact a6, by rw [eG]; exact a7, ?_⟩
  unfold r_N99
  rw [r_ff (by decide)]
  exact a8
/-- where the TEXT lies -/
def r_bl (M0 : EM) : Prop := 0 ≤ M0 192 16 ∧ M0 192 16 ≤ 840 ∧ M0 192 17 ≤ 120
theorem r_mk_ty (h : r_mk p kd g0 M0 M) (hb : r_bl M0) (hq : 0 ≤ M 192 15 ∧ M 192 15 ≤ 1000) : r_ty M := by
  obtain ⟨a1, a2, -⟩ := h
  have e6 := a2 192 16 (by decide) (by omega)
  have e7 := a2 192 17 (by decide) (by omega)
  obtain ⟨b1, b2, b3⟩ := hb
  exact ⟨a1, hq.1, hq.2, by omega, by omega, by omega⟩
theorem r_mk_17 (h : r_mk p kd g0 M0 M) : M 192 17 = M0 192 17 := h.2.1 192 17 (by decide) (by omega)
theorem r_mk_cl {y : Int} (h : r_mk p kd g0 M0 M) (hy : r_cl g0 p y) : r_cl (r_G M) p y := by
  have a3 := h.2.2.1
  have h0 := hy.1
  have h1 := hy.2.1
  exact r_cl_eq (a3 _ (by omega) (by omega) (by omega)) (a3 _ (by omega) (by omega) (by omega)) (r_lies_eq (fun j j0 j1 => a3 _ (by omega) (by omega) (by omega))) hy
theorem r_mk_cl' {b y : Int} (h : r_mk p kd g0 M0 M) (hb : b ≤ p) (hy : r_cl g0 b y) : r_cl (r_G M) b y := by
  have h1 := r_mk_cl h (r_cl_up hy hb)
  exact ⟨h1.1, hy.2.1, h1.2.2⟩
theorem r_mk_rw' {b y : Int} (h : r_mk p kd g0 M0 M) (hb : b ≤ p) (hy : r_rw g0 b y) : r_rw (r_G M) b y := by
  have a3 := h.2.2.1
  have h0 := hy.1
  have h1 := hy.2.1
  exact r_rw_eq (fun j j0 j1 j2 => a3 _ (by omega) (by omega) (by omega)) (fun z hz => r_mk_cl' h (by omega) hz) hy
theorem r_mk_fd' {b y : Int} (h : r_mk p kd g0 M0 M) (hb : b ≤ p) (hy : r_fd g0 b y) : r_fd (r_G M) b y := by
  have a3 := h.2.2.1
  have h0 := hy.1
  have h1 := hy.2.1
  exact r_fd_eq (fun j j0 j1 j2 => a3 _ (by omega) (by omega) (by omega)) (fun z hz => r_mk_cl' h (by omega) hz) (fun z hz => r_mk_rw' h (by omega) hz) hy
theorem r_mk_bx' {b y : Int} (h : r_mk p kd g0 M0 M) (hb : b ≤ p) (hy : r_bx g0 b y) : r_bx (r_G M) b y := by
  have a3 := h.2.2.1
  have h0 := hy.1
  have h1 := hy.2.1
  exact r_bx_eq (a3 _ (by omega) (by omega) (by omega)) (a3 _ (by omega) (by omega) (by omega)) (a3 _ (by omega) (by omega) (by omega)) (fun h4 => by rw [a3 _ (by omega) (by omega) (by omega)]; exact h4) (fun z hz => r_mk_cl' h (by omega) hz) (fun z hz => r_mk_rw' h (by omega) hz) (fun z hz => r_mk_fd' h (by omega) hz) hy
end RMK
theorem r_n192 {M : EM} {i v : Int} {k : Nat} : (e_up M 193 i.toNat v) 192 k = M 192 k := r_n193 (by decide)
theorem r_mayCome {q p ks : Int} {M : EM} (hq : 0 ≤ q) (hp : p ≤ 40) : ∃ r, E_C 185 [192, q, p, ks] M = some (r, M) ∧ (r = 0 ∨ r = 1) ∧ (r = 1 → q < p ∧ e_bit (fun x y => x &&& y) (e_bit (fun x y => x >>> (y &&& 31)) ks (r_G M (28 * q))) 1 = 1) := by
  rcases x_lt q p with ⟨c0, c0_n⟩ | ⟨c0, c0_n⟩
  · have kk : E_C 170 [192, q] M = some (r_G M (28 * q), M) := r_kind ⟨hq, by omega⟩
    have w1 : e_w (28 * q) = 28 * q := a_w_id (by omega) (by omega)
    have w2 : e_w (28 * q + 1) = 28 * q + 1 := a_w_id (by omega) (by omega)
    have l1 : e_op 60 [193, 28 * q + 1] M = some (r_G M (28 * q + 1)) := r_rd (by omega) (by omega)
    by_cases c1 : e_bit (fun x y => x &&& y) (e_bit (fun x y => x >>> (y &&& 31)) ks (r_G M (28 * q))) 1 = 1
    · by_cases c2 : r_G M (28 * q + 1) = 0
      · refine ⟨1, ?_, Or.inr rfl, fun _ => ⟨c0, c1⟩⟩
        rw [r_ent (show e_rok 185 [192, q, p, ks] = true from decide_eq_true r_ref)]
        show e_tv E_C (E_V 185) e_t185_0 [192, q, p, ks, 0] M = _
        unfold e_t185_0
        simp [zq_a, zq_b, zq_c, zq_d, zq_e, zq_f, zq_g, zq_h, zq_i, zq_j, zq_k, zq_l, zq_m, zq_n, zq_o, zq_p, zq_q, zq_r, zq_s, zq_t, zq_u, zq_v, zq_w, zq_x, zq_y, zq_z, zq_A, zq_B, zq_C, zq_D, zq_E, zq_F, zq_G, zq_H, zq_I, zq_J, zq_K, zq_L, ↓zq_M, ↓zq_N, ↓zq_O, ↓zq_P, ↓zq_Q, ↓zq_R, zq_S, zq_T, zq_U, zq_V, zq_W, zq_X, zq_Y, zq_Z, zq_0, zq_1, zq_2, zq_3, zq_4, zq_5, ↓zq_6, ↓zq_7, ↓zq_8, ↓zq_9, ↓zq_aa, zq_ab, zq_ac, zq_ad, zq_ae, zq_af, zq_ag, ↓zq_ah, ↓zq_ai, ↓zq_aj, zq_ak, ↓zq_al, ↓zq_am, e_b1, e_b2, x_o1, x_o2, r_O0, c0, c0_n, kk, c1, w1, w2, l1, c2]
      · refine ⟨0, ?_, Or.inl rfl, fun h => absurd h (by decide)⟩
        rw [r_ent (show e_rok 185 [192, q, p, ks] = true from decide_eq_true r_ref)]
        show e_tv E_C (E_V 185) e_t185_0 [192, q, p, ks, 0] M = _
        unfold e_t185_0
        simp [zq_a, zq_b, zq_c, zq_d, zq_e, zq_f, zq_g, zq_h, zq_i, zq_j, zq_k, zq_l, zq_m, zq_n, zq_o, zq_p, zq_q, zq_r, zq_s, zq_t, zq_u, zq_v, zq_w, zq_x, zq_y, zq_z, zq_A, zq_B, zq_C, zq_D, zq_E, zq_F, zq_G, zq_H, zq_I, zq_J, zq_K, zq_L, ↓zq_M, ↓zq_N, ↓zq_O, ↓zq_P, ↓zq_Q, ↓zq_R, zq_S, zq_T, zq_U, zq_V, zq_W, zq_X, zq_Y, zq_Z, zq_0, zq_1, zq_2, zq_3, zq_4, zq_5, ↓zq_6, ↓zq_7, ↓zq_8, ↓zq_9, ↓zq_aa, zq_ab, zq_ac, zq_ad, zq_ae, zq_af, zq_ag, ↓zq_ah, ↓zq_ai, ↓zq_aj, zq_ak, ↓zq_al, ↓zq_am, e_b1, e_b2, x_o1, x_o2, r_O0, c0, c0_n, kk, c1, w1, w2, l1, c2]
    · refine ⟨0, ?_, Or.inl rfl, fun h => absurd h (by decide)⟩
      rw [r_ent (show e_rok 185 [192, q, p, ks] = true from decide_eq_true r_ref)]
      show e_tv E_C (E_V 185) e_t185_0 [192, q, p, ks, 0] M = _
      unfold e_t185_0
      simp [zq_a, zq_b, zq_c, zq_d, zq_e, zq_f, zq_g, zq_h, zq_i, zq_j, zq_k, zq_l, zq_m, zq_n, zq_o, zq_p, zq_q, zq_r, zq_s, zq_t, zq_u, zq_v, zq_w, zq_x, zq_y, zq_z, zq_A, zq_B, zq_C, zq_D, zq_E, zq_F, zq_G, zq_H, zq_I, zq_J, zq_K, zq_L, ↓zq_M, ↓zq_N, ↓zq_O, ↓zq_P, ↓zq_Q, ↓zq_R, zq_S, zq_T, zq_U, zq_V, zq_W, zq_X, zq_Y, zq_Z, zq_0, zq_1, zq_2, zq_3, zq_4, zq_5, ↓zq_6, ↓zq_7, ↓zq_8, ↓zq_9, ↓zq_aa, zq_ab, zq_ac, zq_ad, zq_ae, zq_af, zq_ag, ↓zq_ah, ↓zq_ai, ↓zq_aj, zq_ak, ↓zq_al, ↓zq_am, e_b1, e_b2, x_o1, x_o2, r_O0, c0, c0_n, kk, c1]
  · refine ⟨0, ?_, Or.inl rfl, fun h => absurd h (by decide)⟩
    rw [r_ent (show e_rok 185 [192, q, p, ks] = true from decide_eq_true r_ref)]
    show e_tv E_C (E_V 185) e_t185_0 [192, q, p, ks, 0] M = _
    unfold e_t185_0
    simp [zq_a, zq_b, zq_c, zq_d, zq_e, zq_f, zq_g, zq_h, zq_i, zq_j, zq_k, zq_l, zq_m, zq_n, zq_o, zq_p, zq_q, zq_r, zq_s, zq_t, zq_u, zq_v, zq_w, zq_x, zq_y, zq_z, zq_A, zq_B, zq_C, zq_D, zq_E, zq_F, zq_G, zq_H, zq_I, zq_J, zq_K, zq_L, ↓zq_M, ↓zq_N, ↓zq_O, ↓zq_P, ↓zq_Q, ↓zq_R, zq_S, zq_T, zq_U, zq_V, zq_W, zq_X, zq_Y, zq_Z, zq_0, zq_1, zq_2, zq_3, zq_4, zq_5, ↓zq_6, ↓zq_7, ↓zq_8, ↓zq_9, ↓zq_aa, zq_ab, zq_ac, zq_ad, zq_ae, zq_af, zq_ag, ↓zq_ah, ↓zq_ai, ↓zq_aj, zq_ak, ↓zq_al, ↓zq_am, e_b1, e_b2, x_o1, x_o2, c0, c0_n]
theorem r_bits {k : Int} (hk : 0 ≤ k ∧ k ≤ 3) : (e_bit (fun x y => x &&& y) (e_bit (fun x y => x >>> (y &&& 31)) 1 k) 1 = 1 → k = 0) ∧ (e_bit (fun x y => x &&& y) (e_bit (fun x y => x >>> (y &&& 31)) 3 k) 1 = 1 → k = 0 ∨ k = 1) ∧ (e_bit (fun x y => x &&& y) (e_bit (fun x y => x >>> (y &&& 31)) 7 k) 1 = 1 → k = 0 ∨ k = 1 ∨ k = 2) := by
  have h : k = 0 ∨ k = 1 ∨ k = 2 ∨ k = 3 := by omega
  rcases h with rfl | rfl | rfl | rfl <;> decide +kernel
/-- of a PART that is there by its KIND -/
theorem r_W_kind {g : Int → Int} (hW : r_W g) {q : Int} (hq : 0 ≤ q ∧ q < g 1198) : (0 ≤ g (28 * q) ∧ g (28 * q) ≤ 3) ∧ (g (28 * q) = 0 → r_cl g (g 1198) q) ∧ (g (28 * q) = 1 → r_rw g (g 1198) q) ∧ (g (28 * q) = 2 → r_fd g (g 1198) q) := by
  rcases hW.2.2.1 q hq.1 hq.2 with h | h | h | h <;> have hk := h.2.2.1
  · exact ⟨by omega, fun _ => h, fun e => by omega, fun e => by omega⟩
  · exact ⟨by omega, fun e => by omega, fun _ => h, fun e => by omega⟩
  · exact ⟨by omega, fun e => by omega, fun e => by omega, fun _ => h⟩
  · exact ⟨by omega, fun e => by omega, fun e => by omega, fun e => by omega⟩
/-! a CURVE -/
theorem r_mc_184 {p n x5 : Int} {M : EM} (hp : 0 ≤ p ∧ p < 40) (hn : n ≤ 6) : ∀ (m : Nat) (x3 x4 : Int), (n - x4).toNat ≤ m → 1 ≤ x4 → ∃ r, E_V 184 184 [192, p, n, x3, x4, x5] M = some (r, M) := by
  have hend : ∀ x3 x4, ¬ (x4 < n) → ∃ r, E_V 184 184 [192, p, n, x3, x4, x5] M = some (r, M) := by
    intro x3 x4 q
    refine ⟨x3, ?_⟩
    rw [E_V_eq]
    show e_tv E_C (E_V 184) e_t184_184 [192, p, n, x3, x4, x5] M = _
    unfold e_t184_184
    simp [zq_a, zq_b, zq_c, zq_d, zq_e, zq_f, zq_g, zq_h, zq_i, zq_j, zq_k, zq_l, zq_m, zq_n, zq_o, zq_p, zq_q, zq_r, zq_s, zq_t, zq_u, zq_v, zq_w, zq_x, zq_y, zq_z, zq_A, zq_B, zq_C, zq_D, zq_E, zq_F, zq_G, zq_H, zq_I, zq_J, zq_K, zq_L, ↓zq_M, ↓zq_N, ↓zq_O, ↓zq_P, ↓zq_Q, ↓zq_R, zq_S, zq_T, zq_U, zq_V, zq_W, zq_X, zq_Y, zq_Z, zq_0, zq_1, zq_2, zq_3, zq_4, zq_5, ↓zq_6, ↓zq_7, ↓zq_8, ↓zq_9, ↓zq_aa, zq_ab, zq_ac, zq_ad, zq_ae, zq_af, zq_ag, ↓zq_ah, ↓zq_ai, ↓zq_aj, zq_ak, ↓zq_al, ↓zq_am, e_b1, e_b2, x_o1, x_o2, q]
  intro m
  induction m with
  | zero => intro x3 x4 hm h0; exact hend x3 x4 (by omega)
  | succ m ih =>
    intro x3 x4 hm h0
    rcases x_lt x4 n with ⟨q, q_n⟩ | ⟨q, q_n⟩
    · have w1 : e_w (28 * p) = 28 * p := a_w_id (by omega) (by omega)
      have w2 : e_w (28 * p + 9) = 28 * p + 9 := a_w_id (by omega) (by omega)
      have w3 : e_w (28 * p + 9 + x4) = 28 * p + 9 + x4 := a_w_id (by omega) (by omega)
      have w4 : e_w (28 * p + 8) = 28 * p + 8 := a_w_id (by omega) (by omega)
      have w5 : e_w (28 * p + 8 + x4) = 28 * p + 8 + x4 := a_w_id (by omega) (by omega)
      have w6 : e_w (x4 - 1) = x4 - 1 := a_w_id (by omega) (by omega)
      have w7 : e_w (x4 + 1) = x4 + 1 := a_w_id (by omega) (by omega)
      have k1 := r_of (M := M) (p := p) (k := x4) hp ⟨by omega, by omega⟩
      have k2 := r_of (M := M) (p := p) (k := x4 - 1) hp ⟨by omega, by omega⟩
      have l1 : e_op 60 [193, 28 * p + 9 + x4] M = some (r_G M (28 * p + 9 + x4)) := r_rd (by omega) (by omega)
      have l2 : e_op 60 [193, 28 * p + 8 + x4] M = some (r_G M (28 * p + 8 + x4)) := r_rd (by omega) (by omega)
      obtain ⟨r1, j1⟩ := ih 1 (x4 + 1) (by omega) (by omega)
      obtain ⟨r0, j0⟩ := ih 0 (x4 + 1) (by omega) (by omega)
      by_cases c0 : x3 = 0
      · refine ⟨r0, ?_⟩
        rw [E_V_eq]
        show e_tv E_C (E_V 184) e_t184_184 [192, p, n, x3, x4, x5] M = _
        unfold e_t184_184
        simp [zq_a, zq_b, zq_c, zq_d, zq_e, zq_f, zq_g, zq_h, zq_i, zq_j, zq_k, zq_l, zq_m, zq_n, zq_o, zq_p, zq_q, zq_r, zq_s, zq_t, zq_u, zq_v, zq_w, zq_x, zq_y, zq_z, zq_A, zq_B, zq_C, zq_D, zq_E, zq_F, zq_G, zq_H, zq_I, zq_J, zq_K, zq_L, ↓zq_M, ↓zq_N, ↓zq_O, ↓zq_P, ↓zq_Q, ↓zq_R, zq_S, zq_T, zq_U, zq_V, zq_W, zq_X, zq_Y, zq_Z, zq_0, zq_1, zq_2, zq_3, zq_4, zq_5, ↓zq_6, ↓zq_7, ↓zq_8, ↓zq_9, ↓zq_aa, zq_ab, zq_ac, zq_ad, zq_ae, zq_af, zq_ag, ↓zq_ah, ↓zq_ai, ↓zq_aj, zq_ak, ↓zq_al, ↓zq_am, e_b1, e_b2, x_o1, x_o2, q, q_n, c0, w7, j0]
      · rcases x_lt (M 193 (28 * p + 3 + (x4 - 1)).toNat) (M 193 (28 * p + 3 + x4).toNat) with ⟨c1, c1_n⟩ | ⟨c1, c1_n⟩
        · rcases x_lt (r_G M (28 * p + 9 + x4)) (r_G M (28 * p + 8 + x4)) with ⟨c2, c2_n⟩ | ⟨c2, c2_n⟩
          · refine ⟨r1, ?_⟩
            rw [E_V_eq]
            show e_tv E_C (E_V 184) e_t184_184 [192, p, n, x3, x4, x5] M = _
            unfold e_t184_184
            simp [zq_a, zq_b, zq_c, zq_d, zq_e, zq_f, zq_g, zq_h, zq_i, zq_j, zq_k, zq_l, zq_m, zq_n, zq_o, zq_p, zq_q, zq_r, zq_s, zq_t, zq_u, zq_v, zq_w, zq_x, zq_y, zq_z, zq_A, zq_B, zq_C, zq_D, zq_E, zq_F, zq_G, zq_H, zq_I, zq_J, zq_K, zq_L, ↓zq_M, ↓zq_N, ↓zq_O, ↓zq_P, ↓zq_Q, ↓zq_R, zq_S, zq_T, zq_U, zq_V, zq_W, zq_X, zq_Y, zq_Z, zq_0, zq_1, zq_2, zq_3, zq_4, zq_5, ↓zq_6, ↓zq_7, ↓zq_8, ↓zq_9, ↓zq_aa, zq_ab, zq_ac, zq_ad, zq_ae, zq_af, zq_ag, ↓zq_ah, ↓zq_ai, ↓zq_aj, zq_ak, ↓zq_al, ↓zq_am, e_b1, e_b2, x_o1, x_o2, r_O0, q, q_n, c0, w1, w2, w3, w4, w5, w6, w7, k1, k2, l1, l2, c1, c1_n, c2, c2_n, j1]
          · refine ⟨r0, ?_⟩
            rw [E_V_eq]
            show e_tv E_C (E_V 184) e_t184_184 [192, p, n, x3, x4, x5] M = _
            unfold e_t184_184
            simp [zq_a, zq_b, zq_c, zq_d, zq_e, zq_f, zq_g, zq_h, zq_i, zq_j, zq_k, zq_l, zq_m, zq_n, zq_o, zq_p, zq_q, zq_r, zq_s, zq_t, zq_u, zq_v, zq_w, zq_x, zq_y, zq_z, zq_A, zq_B, zq_C, zq_D, zq_E, zq_F, zq_G, zq_H, zq_I, zq_J, zq_K, zq_L, ↓zq_M, ↓zq_N, ↓zq_O, ↓zq_P, ↓zq_Q, ↓zq_R, zq_S, zq_T, zq_U, zq_V, zq_W, zq_X, zq_Y, zq_Z, zq_0, zq_1, zq_2, zq_3, zq_4, zq_5, ↓zq_6, ↓zq_7, ↓zq_8, ↓zq_9, ↓zq_aa, zq_ab, zq_ac, zq_ad, zq_ae, zq_af, zq_ag, ↓zq_ah, ↓zq_ai, ↓zq_aj, zq_ak, ↓zq_al, ↓zq_am, e_b1, e_b2, x_o1, x_o2, r_O0, q, q_n, c0, w1, w2, w3, w4, w5, w6, w7, k1, k2, l1, l2, c1, c1_n, c2, c2_n, j0]
        · refine ⟨r0, ?_⟩
          rw [E_V_eq]
          show e_tv E_C (E_V 184) e_t184_184 [192, p, n, x3, x4, x5] M = _
          unfold e_t184_184
          simp [zq_a, zq_b, zq_c, zq_d, zq_e, zq_f, zq_g, zq_h, zq_i, zq_j, zq_k, zq_l, zq_m, zq_n, zq_o, zq_p, zq_q, zq_r, zq_s, zq_t, zq_u, zq_v, zq_w, zq_x, zq_y, zq_z, zq_A, zq_B, zq_C, zq_D, zq_E, zq_F, zq_G, zq_H, zq_I, zq_J, zq_K, zq_L, ↓zq_M, ↓zq_N, ↓zq_O, ↓zq_P, ↓zq_Q, ↓zq_R, zq_S, zq_T, zq_U, zq_V, zq_W, zq_X, zq_Y, zq_Z, zq_0, zq_1, zq_2, zq_3, zq_4, zq_5, ↓zq_6, ↓zq_7, ↓zq_8, ↓zq_9, ↓zq_aa, zq_ab, zq_ac, zq_ad, zq_ae, zq_af, zq_ag, ↓zq_ah, ↓zq_ai, ↓zq_aj, zq_ak, ↓zq_al, ↓zq_am, e_b1, e_b2, x_o1, x_o2, r_O0, q, q_n, c0, w6, w7, k1, k2, c1, c1_n, j0]
    · exact hend x3 x4 q
end
section
theorem r_pos_up {M : EM} (h : r_ty M) (hl : M 192 15 ≤ 999) : r_ty (e_up M 192 15 (M 192 15 + 1)) := by
  obtain ⟨t1, t2, t3, t4, t5, t6⟩ := h
  refine ⟨r_up (by decide) (by decide +kernel) (by decide +kernel) ⟨by omega, by omega⟩ t1, ?_, ?_, ?_, ?_, ?_⟩
  · rw [c_up_s]; omega
  · rw [c_up_s]; omega
  · rw [r_ff (by decide)]; exact t4
  · rw [r_ff (by decide)]; exact t5
  · rw [r_ff (by decide)]; exact t6
/-- the end of a CURVE -/
theorem r_mc_end {p : Int} {g0 : Int → Int} {M0 M : EM} {n x3 x4 x5 : Int} (hp : 0 ≤ p ∧ p < 40) (hb : r_bl M0) (hk : r_mk p 0 g0 M0 M) (hq : 0 ≤ M 192 15 ∧ M 192 15 ≤ 200) (hn : 0 ≤ n ∧ n ≤ 6) (hs : r_sg M ≠ 32) : ∃ r M', E_V 184 101 [192, p, n, x3, x4, x5] M = some (r, M') ∧ r_mk p 0 g0 M0 M' ∧ M' 192 15 = M 192 15 ∧ 0 ≤ r_G M' (28 * p + 2) ∧ r_G M' (28 * p + 2) ≤ 6 := by
  have ks := r_sign (r_mk_ty hk hb ⟨hq.1, by omega⟩)
  have w1 : e_w (28 * p) = 28 * p := a_w_id (by omega) (by omega)
  have w2 : e_w (28 * p + 2) = 28 * p + 2 := a_w_id (by omega) (by omega)
  have w3 : e_w (28 * p + 8) = 28 * p + 8 := a_w_id (by omega) (by omega)
  have w4 : e_w (28 * p + 8 + n) = 28 * p + 8 + n := a_w_id (by omega) (by omega)
  have w5 : e_w (28 * p + 2 + n) = 28 * p + 2 + n := a_w_id (by omega) (by omega)
  have st := r_stw (i := 28 * p + 2) (v := n) (M := M) (by omega) (by omega)
  have h2 := r_mk_w (i := 28 * p + 2) (v := n) hk hp.1 (by omega) (fun _ => by omega) (fun _ => by omega) ⟨by omega, by omega⟩
  have hg : r_G (e_up M 193 (28 * p + 2).toNat n) (28 * p + 2) = n := r_G_s
  have hp15 : (e_up M 193 (28 * p + 2).toNat n) 192 15 = M 192 15 := r_n192
  generalize e_up M 193 (28 * p + 2).toNat n = M2 at st h2 hg hp15
  have ko := r_of (M := M2) (p := p) (k := 0) hp ⟨by decide, by decide⟩
  rw [Int.add_zero] at ko
  have l1 : e_op 60 [193, 28 * p + 8 + n] M2 = some (r_G M2 (28 * p + 8 + n)) := r_rd (by omega) (by omega)
  have l2 : e_op 60 [193, 28 * p + 2 + n] M2 = some (r_G M2 (28 * p + 2 + n)) := r_rd (by omega) (by omega)
  suffices h : ∃ z, E_V 184 101 [192, p, n, x3, x4, x5] M = E_V 184 184 [192, p, n, z, 1, x5] M2 by
    obtain ⟨z, h⟩ := h
    obtain ⟨r, k⟩ := r_mc_184 (p := p) (n := n) (x5 := x5) (M := M2) hp hn.2 _ z 1 (Nat.le_refl _) (by decide)
    exact ⟨r, M2, h.trans k, h2, hp15, by rw [hg]; exact hn.1, by rw [hg]; exact hn.2⟩
  by_cases c0 : x3 = 0
  · refine ⟨0, ?_⟩
    rw [E_V_eq]
    show e_tv E_C (E_V 184) e_t184_101 [192, p, n, x3, x4, x5] M = _
    unfold e_t184_101
    simp [zq_a, zq_b, zq_c, zq_d, zq_e, zq_f, zq_g, zq_h, zq_i, zq_j, zq_k, zq_l, zq_m, zq_n, zq_o, zq_p, zq_q, zq_r, zq_s, zq_t, zq_u, zq_v, zq_w, zq_x, zq_y, zq_z, zq_A, zq_B, zq_C, zq_D, zq_E, zq_F, zq_G, zq_H, zq_I, zq_J, zq_K, zq_L, ↓zq_M, ↓zq_N, ↓zq_O, ↓zq_P, ↓zq_Q, ↓zq_R, zq_S, zq_T, zq_U, zq_V, zq_W, zq_X, zq_Y, zq_Z, zq_0, zq_1, zq_2, zq_3, zq_4, zq_5, ↓zq_6, ↓zq_7, ↓zq_8, ↓zq_9, ↓zq_aa, zq_ab, zq_ac, zq_ad, zq_ae, zq_af, zq_ag, ↓zq_ah, ↓zq_ai, ↓zq_aj, zq_ak, ↓zq_al, ↓zq_am, e_b1, e_b2, x_o1, x_o2, r_O0, ks, hs, w1, w2, st, c0]
  · rcases x_lt 1 n with ⟨c1, c1_n⟩ | ⟨c1, c1_n⟩
    · by_cases c2 : M2 193 (28 * p + 3).toNat = 0
      · by_cases c3 : r_G M2 (28 * p + 8 + n) = 0
        · rcases x_le (r_G M2 (28 * p + 2 + n)) 60 with ⟨c4, c4_n⟩ | ⟨c4, c4_n⟩
          · refine ⟨1, ?_⟩
            rw [E_V_eq]
            show e_tv E_C (E_V 184) e_t184_101 [192, p, n, x3, x4, x5] M = _
            unfold e_t184_101
            simp [zq_a, zq_b, zq_c, zq_d, zq_e, zq_f, zq_g, zq_h, zq_i, zq_j, zq_k, zq_l, zq_m, zq_n, zq_o, zq_p, zq_q, zq_r, zq_s, zq_t, zq_u, zq_v, zq_w, zq_x, zq_y, zq_z, zq_A, zq_B, zq_C, zq_D, zq_E, zq_F, zq_G, zq_H, zq_I, zq_J, zq_K, zq_L, ↓zq_M, ↓zq_N, ↓zq_O, ↓zq_P, ↓zq_Q, ↓zq_R, zq_S, zq_T, zq_U, zq_V, zq_W, zq_X, zq_Y, zq_Z, zq_0, zq_1, zq_2, zq_3, zq_4, zq_5, ↓zq_6, ↓zq_7, ↓zq_8, ↓zq_9, ↓zq_aa, zq_ab, zq_ac, zq_ad, zq_ae, zq_af, zq_ag, ↓zq_ah, ↓zq_ai, ↓zq_aj, zq_ak, ↓zq_al, ↓zq_am, e_b1, e_b2, x_o1, x_o2, r_O0, ks, hs, w1, w2, w3, w4, w5, st, ko, c0, c1, c1_n, c2, l1, l2, c3, c4, c4_n]
          · refine ⟨0, ?_⟩
            rw [E_V_eq]
            show e_tv E_C (E_V 184) e_t184_101 [192, p, n, x3, x4, x5] M = _
            unfold e_t184_101
            simp [zq_a, zq_b, zq_c, zq_d, zq_e, zq_f, zq_g, zq_h, zq_i, zq_j, zq_k, zq_l, zq_m, zq_n, zq_o, zq_p, zq_q, zq_r, zq_s, zq_t, zq_u, zq_v, zq_w, zq_x, zq_y, zq_z, zq_A, zq_B, zq_C, zq_D, zq_E, zq_F, zq_G, zq_H, zq_I, zq_J, zq_K, zq_L, ↓zq_M, ↓zq_N, ↓zq_O, ↓zq_P, ↓zq_Q, ↓zq_R, zq_S, zq_T, zq_U, zq_V, zq_W, zq_X, zq_Y, zq_Z, zq_0, zq_1, zq_2, zq_3, zq_4, zq_5, ↓zq_6, ↓zq_7, ↓zq_8, ↓zq_9, ↓zq_aa, zq_ab, zq_ac, zq_ad, zq_ae, zq_af, zq_ag, ↓zq_ah, ↓zq_ai, ↓zq_aj, zq_ak, ↓zq_al, ↓zq_am, e_b1, e_b2, x_o1, x_o2, r_O0, ks, hs, w1, w2, w3, w4, w5, st, ko, c0, c1, c1_n, c2, l1, l2, c3, c4, c4_n]
        · refine ⟨0, ?_⟩
          rw [E_V_eq]
          show e_tv E_C (E_V 184) e_t184_101 [192, p, n, x3, x4, x5] M = _
          unfold e_t184_101
          simp [zq_a, zq_b, zq_c, zq_d, zq_e, zq_f, zq_g, zq_h, zq_i, zq_j, zq_k, zq_l, zq_m, zq_n, zq_o, zq_p, zq_q, zq_r, zq_s, zq_t, zq_u, zq_v, zq_w, zq_x, zq_y, zq_z, zq_A, zq_B, zq_C, zq_D, zq_E, zq_F, zq_G, zq_H, zq_I, zq_J, zq_K, zq_L, ↓zq_M, ↓zq_N, ↓zq_O, ↓zq_P, ↓zq_Q, ↓zq_R, zq_S, zq_T, zq_U, zq_V, zq_W, zq_X, zq_Y, zq_Z, zq_0, zq_1, zq_2, zq_3, zq_4, zq_5, ↓zq_6, ↓zq_7, ↓zq_8, ↓zq_9, ↓zq_aa, zq_ab, zq_ac, zq_ad, zq_ae, zq_af, zq_ag, ↓zq_ah, ↓zq_ai, ↓zq_aj, zq_ak, ↓zq_al, ↓zq_am, e_b1, e_b2, x_o1, x_o2, r_O0, ks, hs, w1, w2, w3, w4, st, ko, c0, c1, c1_n, c2, l1, c3]
      · refine ⟨0, ?_⟩
        rw [E_V_eq]
        show e_tv E_C (E_V 184) e_t184_101 [192, p, n, x3, x4, x5] M = _
        unfold e_t184_101
        simp [zq_a, zq_b, zq_c, zq_d, zq_e, zq_f, zq_g, zq_h, zq_i, zq_j, zq_k, zq_l, zq_m, zq_n, zq_o, zq_p, zq_q, zq_r, zq_s, zq_t, zq_u, zq_v, zq_w, zq_x, zq_y, zq_z, zq_A, zq_B, zq_C, zq_D, zq_E, zq_F, zq_G, zq_H, zq_I, zq_J, zq_K, zq_L, ↓zq_M, ↓zq_N, ↓zq_O, ↓zq_P, ↓zq_Q, ↓zq_R, zq_S, zq_T, zq_U, zq_V, zq_W, zq_X, zq_Y, zq_Z, zq_0, zq_1, zq_2, zq_3, zq_4, zq_5, ↓zq_6, ↓zq_7, ↓zq_8, ↓zq_9, ↓zq_aa, zq_ab, zq_ac, zq_ad, zq_ae, zq_af, zq_ag, ↓zq_ah, ↓zq_ai, ↓zq_aj, zq_ak, ↓zq_al, ↓zq_am, e_b1, e_b2, x_o1, x_o2, r_O0, ks, hs, w1, w2, st, ko, c0, c1, c1_n, c2]
    · refine ⟨0, ?_⟩
      rw [E_V_eq]
      show e_tv E_C (E_V 184) e_t184_101 [192, p, n, x3, x4, x5] M = _
      unfold e_t184_101
      simp [zq_a, zq_b, zq_c, zq_d, zq_e, zq_f, zq_g, zq_h, zq_i, zq_j, zq_k, zq_l, zq_m, zq_n, zq_o, zq_p, zq_q, zq_r, zq_s, zq_t, zq_u, zq_v, zq_w, zq_x, zq_y, zq_z, zq_A, zq_B, zq_C, zq_D, zq_E, zq_F, zq_G, zq_H, zq_I, zq_J, zq_K, zq_L, ↓zq_M, ↓zq_N, ↓zq_O, ↓zq_P, ↓zq_Q, ↓zq_R, zq_S, zq_T, zq_U, zq_V, zq_W, zq_X, zq_Y, zq_Z, zq_0, zq_1, zq_2, zq_3, zq_4, zq_5, ↓zq_6, ↓zq_7, ↓zq_8, ↓zq_9, ↓zq_aa, zq_ab, zq_ac, zq_ad, zq_ae, zq_af, zq_ag, ↓zq_ah, ↓zq_ai, ↓zq_aj, zq_ak, ↓zq_al, ↓zq_am, e_b1, e_b2, x_o1, x_o2, r_O0, ks, hs, w1, w2, st, c0, c1, c1_n]
theorem r_mc_step {p : Int} {g0 : Int → Int} {M0 : EM} (hp : 0 ≤ p ∧ p < 40) (hb : r_bl M0) {n x3 x4 x5 : Int} {M : EM} (hk : r_mk p 0 g0 M0 M) (hq : 0 ≤ M 192 15 ∧ M 192 15 ≤ 120) (hn : 0 ≤ n ∧ n ≤ 6) (H : ∀ M1 n x3 x4 x5, r_mk p 0 g0 M0 M1 → M 192 15 < M1 192 15 → M1 192 15 < M0 192 17 → (0 ≤ n ∧ n ≤ 6) → ∃ r M', E_V 184 4 [192, p, n, x3, x4, x5] M1 = some (r, M') ∧ r_mk p 0 g0 M0 M' ∧ M1 192 15 < M' 192 15 ∧ M' 192 15 ≤ 130 ∧ 0 ≤ r_G M' (28 * p + 2) ∧ r_G M' (28 * p + 2) ≤ 6) : ∃ r M', E_V 184 4 [192, p, n, x3, x4, x5] M = some (r, M') ∧ r_mk p 0 g0 M0 M' ∧ M 192 15 < M' 192 15 ∧ M' 192 15 ≤ 130 ∧ 0 ≤ r_G M' (28 * p + 2) ∧ r_G M' (28 * p + 2) ≤ 6 := by
  have hb' := hb
  obtain ⟨b1, b2, b3⟩ := hb'
  have e17 := r_mk_17 hk
  have w1 : e_w (M 192 15 + 1) = M 192 15 + 1 := a_w_id (by omega) (by omega)
  have h1 := r_mk_p (v := M 192 15 + 1) hk ⟨by omega, by omega⟩
  have q1 : (e_up M 192 15 (M 192 15 + 1)) 192 15 = M 192 15 + 1 := c_up_s
  generalize hM1 : e_up M 192 15 (M 192 15 + 1) = M1 at h1 q1
  have T1 := r_mk_ty h1 hb ⟨by omega, by omega⟩
  obtain ⟨r2, M2, k2, t2, -, -⟩ := r_rNum T1
  have h2 := r_mk_t h1 t2
  have l2 := t2.2.2.1
  have u2 := t2.2.2.2.1
  have e2 := r_mk_17 h1
  have hq2 : 0 ≤ M2 192 15 ∧ M2 192 15 ≤ 121 := by omega
  have w2 : e_w (M2 192 15 + 1) = M2 192 15 + 1 := a_w_id (by omega) (by omega)
  have h3 := r_mk_p (v := M2 192 15 + 1) h2 ⟨by omega, by omega⟩
  have q3 : (e_up M2 192 15 (M2 192 15 + 1)) 192 15 = M2 192 15 + 1 := c_up_s
  generalize hM3 : e_up M2 192 15 (M2 192 15 + 1) = M3 at h3 q3
  have T3 := r_mk_ty h3 hb ⟨by omega, by omega⟩
  obtain ⟨r4, M4, k4, t4, -, -⟩ := r_rNum T3
  have h4 := r_mk_t h3 t4
  have l4 := t4.2.2.1
  have u4 := t4.2.2.2.1
  have e4 := r_mk_17 h3
  have hq4 : M 192 15 + 2 ≤ M4 192 15 ∧ M4 192 15 ≤ 122 := by omega
  -- behind the second number
  have tail : ∀ N y2 y3 y5, r_mk p 0 g0 M0 N → N 192 15 = M4 192 15 → (0 ≤ y2 ∧ y2 ≤ 6) → ∃ r M', E_V 184 101 [192, p, y2, y3, r4, y5] N = some (r, M') ∧ r_mk p 0 g0 M0 M' ∧ M 192 15 < M' 192 15 ∧ M' 192 15 ≤ 130 ∧ 0 ≤ r_G M' (28 * p + 2) ∧ r_G M' (28 * p + 2) ≤ 6 := by
    intro N y2 y3 y5 hN hN15 hy
    have TN := r_mk_ty hN hb ⟨by omega, by omega⟩
    by_cases c : r_sg N = 32
    · have ks := r_sign TN
      have hl := r_sg_lt c (by decide)
      have eN := r_mk_17 hN
      obtain ⟨r, M', k, z1, z2, z3, z4⟩ := H N y2 y3 r4 y5 hN (by omega) (by omega) hy
      refine ⟨r, M', ?_, z1, by omega, z3, z4⟩
      rw [E_V_eq]
      show e_tv E_C (E_V 184) e_t184_101 [192, p, y2, y3, r4, y5] N = _
      unfold e_t184_101
      simp [zq_a, zq_b, zq_c, zq_d, zq_e, zq_f, zq_g, zq_h, zq_i, zq_j, zq_k, zq_l, zq_m, zq_n, zq_o, zq_p, zq_q, zq_r, zq_s, zq_t, zq_u, zq_v, zq_w, zq_x, zq_y, zq_z, zq_A, zq_B, zq_C, zq_D, zq_E, zq_F, zq_G, zq_H, zq_I, zq_J, zq_K, zq_L, ↓zq_M, ↓zq_N, ↓zq_O, ↓zq_P, ↓zq_Q, ↓zq_R, zq_S, zq_T, zq_U, zq_V, zq_W, zq_X, zq_Y, zq_Z, zq_0, zq_1, zq_2, zq_3, zq_4, zq_5, ↓zq_6, ↓zq_7, ↓zq_8, ↓zq_9, ↓zq_aa, zq_ab, zq_ac, zq_ad, zq_ae, zq_af, zq_ag, ↓zq_ah, ↓zq_ai, ↓zq_aj, zq_ak, ↓zq_al, ↓zq_am, e_b1, e_b2, x_o1, x_o2, ks, c, k]
    · obtain ⟨r, M', k, z1, z2, z3⟩ := r_mc_end (x3 := y3) (x4 := r4) (x5 := y5) hp hb hN ⟨by omega, by omega⟩ hy c
      exact ⟨r, M', k, z1, by omega, by omega, z3⟩
  have n18 : -2147483648 ≤ M4 192 18 ∧ M4 192 18 ≤ 2147483647 := c_M32 h4.1 (by decide) (by decide +kernel)
  have n18' : -2147483648 ≤ M2 192 18 ∧ M2 192 18 ≤ 2147483647 := c_M32 h2.1 (by decide) (by decide +kernel)
  by_cases c : x3 ≠ 0 ∧ n < 6
  · obtain ⟨c0, c1⟩ := c
    have v1 : e_w (28 * p) = 28 * p := a_w_id (by omega) (by omega)
    have v2 : e_w (28 * p + 3) = 28 * p + 3 := a_w_id (by omega) (by omega)
    have v3 : e_w (28 * p + 3 + n) = 28 * p + 3 + n := a_w_id (by omega) (by omega)
    have v4 : e_w (28 * p + 9) = 28 * p + 9 := a_w_id (by omega) (by omega)
    have v5 : e_w (28 * p + 9 + n) = 28 * p + 9 + n := a_w_id (by omega) (by omega)
    have v6 : e_w (n + 1) = n + 1 := a_w_id (by omega) (by omega)
    have s1 := fun v => r_stw (i := 28 * p + 3 + n) (v := v) (M := M4) (by omega) (by omega)
    have s2 := fun v M => r_stw (i := 28 * p + 9 + n) (v := v) (M := M) (by omega) (by omega)
    have h5 := r_mk_w (i := 28 * p + 3 + n) (v := M2 192 18) h4 hp.1 (by omega) (fun _ => by omega) (fun e => absurd e (by decide)) n18'
    have h6 := r_mk_w (i := 28 * p + 9 + n) (v := M4 192 18) h5 hp.1 (by omega) (fun _ => by omega) (fun e => absurd e (by decide)) n18
    obtain ⟨r, M', k, z⟩ := tail _ (n + 1) 1 (M2 192 18) h6 (r_n192.trans r_n192) ⟨by omega, by omega⟩
    refine ⟨r, M', ?_, z⟩
    rw [E_V_eq]
    show e_tv E_C (E_V 184) e_t184_4 [192, p, n, x3, x4, x5] M = _
    unfold e_t184_4
    simp [zq_a, zq_b, zq_c, zq_d, zq_e, zq_f, zq_g, zq_h, zq_i, zq_j, zq_k, zq_l, zq_m, zq_n, zq_o, zq_p, zq_q, zq_r, zq_s, zq_t, zq_u, zq_v, zq_w, zq_x, zq_y, zq_z, zq_A, zq_B, zq_C, zq_D, zq_E, zq_F, zq_G, zq_H, zq_I, zq_J, zq_K, zq_L, ↓zq_M, ↓zq_N, ↓zq_O, ↓zq_P, ↓zq_Q, ↓zq_R, zq_S, zq_T, zq_U, zq_V, zq_W, zq_X, zq_Y, zq_Z, zq_0, zq_1, zq_2, zq_3, zq_4, zq_5, ↓zq_6, ↓zq_7, ↓zq_8, ↓zq_9, ↓zq_aa, zq_ab, zq_ac, zq_ad, zq_ae, zq_af, zq_ag, ↓zq_ah, ↓zq_ai, ↓zq_aj, zq_ak, ↓zq_al, ↓zq_am, e_b1, e_b2, x_o1, x_o2, r_O0, r_F15, r_F18, r_P15, r_n192, w1, hM1, c0, c1, k2, w2, hM3, k4, v1, v2, v3, v4, v5, v6, s1, s2, k]
  · obtain ⟨r, M', k, z⟩ := tail M4 n 0 (M2 192 18) h4 rfl hn
    refine ⟨r, M', ?_, z⟩
    by_cases c0 : x3 = 0
    · rw [E_V_eq]
      show e_tv E_C (E_V 184) e_t184_4 [192, p, n, x3, x4, x5] M = _
      unfold e_t184_4
      simp [zq_a, zq_b, zq_c, zq_d, zq_e, zq_f, zq_g, zq_h, zq_i, zq_j, zq_k, zq_l, zq_m, zq_n, zq_o, zq_p, zq_q, zq_r, zq_s, zq_t, zq_u, zq_v, zq_w, zq_x, zq_y, zq_z, zq_A, zq_B, zq_C, zq_D, zq_E, zq_F, zq_G, zq_H, zq_I, zq_J, zq_K, zq_L, ↓zq_M, ↓zq_N, ↓zq_O, ↓zq_P, ↓zq_Q, ↓zq_R, zq_S, zq_T, zq_U, zq_V, zq_W, zq_X, zq_Y, zq_Z, zq_0, zq_1, zq_2, zq_3, zq_4, zq_5, ↓zq_6, ↓zq_7, ↓zq_8, ↓zq_9, ↓zq_aa, zq_ab, zq_ac, zq_ad, zq_ae, zq_af, zq_ag, ↓zq_ah, ↓zq_ai, ↓zq_aj, zq_ak, ↓zq_al, ↓zq_am, e_b1, e_b2, x_o1, x_o2, r_O0, r_F15, r_F18, r_P15, w1, hM1, c0, k2, w2, hM3, k4, k]
    · have c1 : ¬ (n < 6) := fun e => c ⟨c0, e⟩
      have c1' : 6 ≤ n := by omega
      rw [E_V_eq]
      show e_tv E_C (E_V 184) e_t184_4 [192, p, n, x3, x4, x5] M = _
      unfold e_t184_4
      simp [zq_a, zq_b, zq_c, zq_d, zq_e, zq_f, zq_g, zq_h, zq_i, zq_j, zq_k, zq_l, zq_m, zq_n, zq_o, zq_p, zq_q, zq_r, zq_s, zq_t, zq_u, zq_v, zq_w, zq_x, zq_y, zq_z, zq_A, zq_B, zq_C, zq_D, zq_E, zq_F, zq_G, zq_H, zq_I, zq_J, zq_K, zq_L, ↓zq_M, ↓zq_N, ↓zq_O, ↓zq_P, ↓zq_Q, ↓zq_R, zq_S, zq_T, zq_U, zq_V, zq_W, zq_X, zq_Y, zq_Z, zq_0, zq_1, zq_2, zq_3, zq_4, zq_5, ↓zq_6, ↓zq_7, ↓zq_8, ↓zq_9, ↓zq_aa, zq_ab, zq_ac, zq_ad, zq_ae, zq_af, zq_ag, ↓zq_ah, ↓zq_ai, ↓zq_aj, zq_ak, ↓zq_al, ↓zq_am, e_b1, e_b2, x_o1, x_o2, r_O0, r_F15, r_F18, r_P15, w1, hM1, c0, c1, c1', k2, w2, hM3, k4, k]
theorem r_mc_loop {p : Int} {g0 : Int → Int} {M0 : EM} (hp : 0 ≤ p ∧ p < 40) (hb : r_bl M0) : ∀ (m : Nat) (n x3 x4 x5 : Int) (M : EM), r_mk p 0 g0 M0 M → (M0 192 17 - M 192 15).toNat ≤ m → (0 ≤ M 192 15 ∧ M 192 15 ≤ 120) → (0 ≤ n ∧ n ≤ 6) → ∃ r M', E_V 184 4 [192, p, n, x3, x4, x5] M = some (r, M') ∧ r_mk p 0 g0 M0 M' ∧ M 192 15 < M' 192 15 ∧ M' 192 15 ≤ 130 ∧ 0 ≤ r_G M' (28 * p + 2) ∧ r_G M' (28 * p + 2) ≤ 6 := by
  intro m
  induction m with
  | zero =>
    intro n x3 x4 x5 M hk hm hq hn
    exact r_mc_step hp hb hk hq hn (fun M1 n x3 x4 x5 h1 h2 h3 h4 => by omega)
  | succ m ih =>
    intro n x3 x4 x5 M hk hm hq hn
    have hb3 := hb.2.2
    exact r_mc_step hp hb hk hq hn (fun M1 n x3 x4 x5 h1 h2 h3 h4 => ih n x3 x4 x5 M1 h1 (by omega) ⟨by omega, by omega⟩ h4)
theorem r_makesCell {p : Int} {g0 : Int → Int} {M0 M : EM} (hp : 0 ≤ p ∧ p < 40) (hb : r_bl M0) (hk : r_mk p 0 g0 M0 M) (hq : 0 ≤ M 192 15 ∧ M 192 15 ≤ 120) : ∃ r M', E_C 184 [192, p] M = some (r, M') ∧ r_mk p 0 g0 M0 M' ∧ M 192 15 < M' 192 15 ∧ M' 192 15 ≤ 130 ∧ r_cl (r_G M') (p + 1) p := by
  obtain ⟨r, M', k, z1, z2, z3, z4, z5⟩ := r_mc_loop hp hb _ 0 1 0 0 M hk (Nat.le_refl _) hq (by decide)
  refine ⟨r, M', ?_, z1, z2, z3, hp.1, by omega, z1.2.2.2.2.1, z4, z5, Or.inl (z1.2.2.2.2.2.1 rfl)⟩
  rw [r_ent (show e_rok 184 [192, p] = true from decide_eq_true r_ref)]
  show e_tv E_C (E_V 184) e_t184_0 [192, p, 0, 0, 0, 0] M = _
  unfold e_t184_0
  simp [zq_a, zq_b, zq_c, zq_d, zq_e, zq_f, zq_g, zq_h, zq_i, zq_j, zq_k, zq_l, zq_m, zq_n, zq_o, zq_p, zq_q, zq_r, zq_s, zq_t, zq_u, zq_v, zq_w, zq_x, zq_y, zq_z, zq_A, zq_B, zq_C, zq_D, zq_E, zq_F, zq_G, zq_H, zq_I, zq_J, zq_K, zq_L, ↓zq_M, ↓zq_N, ↓zq_O, ↓zq_P, ↓zq_Q, ↓zq_R, zq_S, zq_T, zq_U, zq_V, zq_W, zq_X, zq_Y, zq_Z, zq_0, zq_1, zq_2, zq_3, zq_4, zq_5, ↓zq_6, ↓zq_7, ↓zq_8, ↓zq_9, ↓zq_aa, zq_ab, zq_ac, zq_ad, zq_ae, zq_af, zq_ag, ↓zq_ah, ↓zq_ai, ↓zq_aj, zq_ak, ↓zq_al, ↓zq_am, e_b1, e_b2, x_o1, x_o2, k]
/-! a FIELD, a BOX -/
/-- what may come into it -/
def r_mem (kd : Int) (g : Int → Int) (p y : Int) : Prop := r_cl g p y ∨ r_rw g p y ∨ (kd = 3 ∧ r_fd g p y)
theorem r_mo_end {p kd : Int} {g0 : Int → Int} {M0 M : EM} {most kinds n x5 x6 : Int} (hp : 0 ≤ p ∧ p < 40) (hb : r_bl M0) (hk : r_mk p kd g0 M0 M) (hkd : kd ≠ 0) (hq : 0 ≤ M 192 15 ∧ M 192 15 ≤ 200) (hn : 0 ≤ n ∧ n ≤ 6) (hs : r_sg M ≠ 32) (hm : x5 = 1 → ∀ k, 0 ≤ k → k < n → r_mem kd g0 p (r_G M (28 * p + 3 + k))) : ∃ M', E_V 187 99 [192, p, most, kinds, n, x5, x6] M = some (x5, M') ∧ r_mk p kd g0 M0 M' ∧ M' 192 15 = M 192 15 ∧ r_G M' (28 * p + 2) = n ∧ (x5 = 1 → ∀ k, 0 ≤ k → k < n → r_mem kd g0 p (r_G M' (28 * p + 3 + k))) := by
  have ks := r_sign (r_mk_ty hk hb ⟨hq.1, by omega⟩)
  have w1 : e_w (28 * p) = 28 * p := a_w_id (by omega) (by omega)
  have w2 : e_w (28 * p + 2) = 28 * p + 2 := a_w_id (by omega) (by omega)
  have st := r_stw (i := 28 * p + 2) (v := n) (M := M) (by omega) (by omega)
  have h2 := r_mk_w (i := 28 * p + 2) (v := n) hk hp.1 (by omega) (fun e => absurd e hkd) (fun _ => by omega) ⟨by omega, by omega⟩
  refine ⟨_, ?_, h2, r_n192, r_G_s, fun h5 k k0 k1 => ?_⟩
  · rw [E_V_eq]
    show e_tv E_C (E_V 187) e_t187_99 [192, p, most, kinds, n, x5, x6] M = _
    unfold e_t187_99
    simp [zq_a, zq_b, zq_c, zq_d, zq_e, zq_f, zq_g, zq_h, zq_i, zq_j, zq_k, zq_l, zq_m, zq_n, zq_o, zq_p, zq_q, zq_r, zq_s, zq_t, zq_u, zq_v, zq_w, zq_x, zq_y, zq_z, zq_A, zq_B, zq_C, zq_D, zq_E, zq_F, zq_G, zq_H, zq_I, zq_J, zq_K, zq_L, ↓zq_M, ↓zq_N, ↓zq_O, ↓zq_P, ↓zq_Q, ↓zq_R, zq_S, zq_T, zq_U, zq_V, zq_W, zq_X, zq_Y, zq_Z, zq_0, zq_1, zq_2, zq_3, zq_4, zq_5, ↓zq_6, ↓zq_7, ↓zq_8, ↓zq_9, ↓zq_aa, zq_ab, zq_ac, zq_ad, zq_ae, zq_af, zq_ag, ↓zq_ah, ↓zq_ai, ↓zq_aj, zq_ak, ↓zq_al, ↓zq_am, e_b1, e_b2, x_o1, x_o2, r_O0, ks, hs, w1, w2, st]
  · rw [r_G_n (by omega) (by omega)]
    exact hm h5 k k0 k1
def r_MO (p kd most : Int) (g0 : Int → Int) (M0 M : EM) (o : EO) : Prop := ∃ r M', o = some (r, M') ∧ r_mk p kd g0 M0 M' ∧ M 192 15 < M' 192 15 ∧ M' 192 15 ≤ 130 ∧ (r = 0 ∨ r = 1) ∧ (r = 1 → 1 ≤ r_G M' (28 * p + 2) ∧ r_G M' (28 * p + 2) ≤ most ∧ ∀ k, 0 ≤ k → k < r_G M' (28 * p + 2) → r_mem kd g0 p (r_G M' (28 * p + 3 + k)))
theorem r_mo_step {p kd most kinds : Int} {g0 : Int → Int} {M0 : EM} (hp : p < 40) (hW : r_W g0) (hpc : g0 1198 = p) (hb : r_bl M0) (hkd : kd = 2 ∧ most = 6 ∧ kinds = 3 ∨ kd = 3 ∧ most = 1 ∧ kinds = 7) {n x5 x6 : Int} {M : EM} (hk : r_mk p kd g0 M0 M) (hq : 0 ≤ M 192 15 ∧ M 192 15 ≤ 120) (hn : 0 ≤ n ∧ n ≤ 6) (hx : x5 = 0 ∨ x5 = 1) (hm : x5 = 1 → ∀ k, 0 ≤ k → k < n → r_mem kd g0 p (r_G M (28 * p + 3 + k))) (H : ∀ M1 n x5 x6, r_mk p kd g0 M0 M1 → M 192 15 < M1 192 15 → M1 192 15 < M0 192 17 → (0 ≤ n ∧ n ≤ 6) → (x5 = 0 ∨ x5 = 1) → (x5 = 1 → ∀ k, 0 ≤ k → k < n → r_mem kd g0 p (r_G M1 (28 * p + 3 + k))) → r_MO p kd most g0 M0 M1 (E_V 187 6 [192, p, most, kinds, n, x5, x6] M1)) : r_MO p kd most g0 M0 M (E_V 187 6 [192, p, most, kinds, n, x5, x6] M) := by
  have hp0 : 0 ≤ p := by rw [← hpc]; exact hW.1
  have hb' := hb
  obtain ⟨b1, b2, b3⟩ := hb'
  have e17 := r_mk_17 hk
  have w1 : e_w (M 192 15 + 1) = M 192 15 + 1 := a_w_id (by omega) (by omega)
  have h1 := r_mk_p (v := M 192 15 + 1) hk ⟨by omega, by omega⟩
  have q1 : (e_up M 192 15 (M 192 15 + 1)) 192 15 = M 192 15 + 1 := c_up_s
  have eG1 : r_G (e_up M 192 15 (M 192 15 + 1)) = r_G M := r_up_Gne (by decide)
  generalize hM1 : e_up M 192 15 (M 192 15 + 1) = M1 at h1 q1 eG1
  have T1 := r_mk_ty h1 hb ⟨by omega, by omega⟩
  obtain ⟨r2, M2, k2, t2, -, -⟩ := r_rNum T1
  have h2 := r_mk_t h1 t2
  have eG2 : r_G M2 = r_G M := (funext fun i => t2.2.1 _ _ (by omega)).trans eG1
  have l2 := t2.2.2.1
  have u2 := t2.2.2.2.1
  have e2 := r_mk_17 h1
  have hq2 : M 192 15 + 1 ≤ M2 192 15 ∧ M2 192 15 ≤ 121 := by omega
  obtain ⟨n0, n99⟩ := h2.2.2.2.2.2.2.2
  have tail : ∀ N y4 y5, r_mk p kd g0 M0 N → N 192 15 = M2 192 15 → (0 ≤ y4 ∧ y4 ≤ 6) → (y5 = 0 ∨ y5 = 1) → (y5 = 1 → 1 ≤ y4 ∧ y4 ≤ most) → (y5 = 1 → ∀ k, 0 ≤ k → k < y4 → r_mem kd g0 p (r_G N (28 * p + 3 + k))) → r_MO p kd most g0 M0 M (E_V 187 99 [192, p, most, kinds, y4, y5, r2] N) := by
    intro N y4 y5 hN hN15 hy hy5 hy1 hmm
    have TN := r_mk_ty hN hb ⟨by omega, by omega⟩
    by_cases c : r_sg N = 32
    · have ks := r_sign TN
      have hl := r_sg_lt c (by decide)
      have eN := r_mk_17 hN
      obtain ⟨r, M', k, z1, z2, z3⟩ := H N y4 y5 r2 hN (by omega) (by omega) hy hy5 hmm
      refine ⟨r, M', ?_, z1, by omega, z3⟩
      rw [E_V_eq]
      show e_tv E_C (E_V 187) e_t187_99 [192, p, most, kinds, y4, y5, r2] N = _
      unfold e_t187_99
      simp [zq_a, zq_b, zq_c, zq_d, zq_e, zq_f, zq_g, zq_h, zq_i, zq_j, zq_k, zq_l, zq_m, zq_n, zq_o, zq_p, zq_q, zq_r, zq_s, zq_t, zq_u, zq_v, zq_w, zq_x, zq_y, zq_z, zq_A, zq_B, zq_C, zq_D, zq_E, zq_F, zq_G, zq_H, zq_I, zq_J, zq_K, zq_L, ↓zq_M, ↓zq_N, ↓zq_O, ↓zq_P, ↓zq_Q, ↓zq_R, zq_S, zq_T, zq_U, zq_V, zq_W, zq_X, zq_Y, zq_Z, zq_0, zq_1, zq_2, zq_3, zq_4, zq_5, ↓zq_6, ↓zq_7, ↓zq_8, ↓zq_9, ↓zq_aa, zq_ab, zq_ac, zq_ad, zq_ae, zq_af, zq_ag, ↓zq_ah, ↓zq_ai, ↓zq_aj, zq_ak, ↓zq_al, ↓zq_am, e_b1, e_b2, x_o1, x_o2, ks, c, k]
    · obtain ⟨M', k, z1, z2, z3, z4⟩ := r_mo_end (most := most) (kinds := kinds) (x5 := y5) (x6 := r2) ⟨hp0, hp⟩ hb hN (by omega) ⟨by omega, by omega⟩ hy c hmm
      exact ⟨y5, M', k, z1, by omega, by omega, hy5, fun h => ⟨by rw [z3]; exact (hy1 h).1, by rw [z3]; exact (hy1 h).2, by rw [z3]; exact z4 h⟩⟩
  by_cases c0 : x5 = 0
  · obtain ⟨r, M', k, z⟩ := tail M2 n 0 h2 rfl hn (Or.inl rfl) (fun e => absurd e (by decide)) (fun e => absurd e (by decide))
    refine ⟨r, M', ?_, z⟩
    rw [E_V_eq]
    show e_tv E_C (E_V 187) e_t187_6 [192, p, most, kinds, n, x5, x6] M = _
    unfold e_t187_6
    simp [zq_a, zq_b, zq_c, zq_d, zq_e, zq_f, zq_g, zq_h, zq_i, zq_j, zq_k, zq_l, zq_m, zq_n, zq_o, zq_p, zq_q, zq_r, zq_s, zq_t, zq_u, zq_v, zq_w, zq_x, zq_y, zq_z, zq_A, zq_B, zq_C, zq_D, zq_E, zq_F, zq_G, zq_H, zq_I, zq_J, zq_K, zq_L, ↓zq_M, ↓zq_N, ↓zq_O, ↓zq_P, ↓zq_Q, ↓zq_R, zq_S, zq_T, zq_U, zq_V, zq_W, zq_X, zq_Y, zq_Z, zq_0, zq_1, zq_2, zq_3, zq_4, zq_5, ↓zq_6, ↓zq_7, ↓zq_8, ↓zq_9, ↓zq_aa, zq_ab, zq_ac, zq_ad, zq_ae, zq_af, zq_ag, ↓zq_ah, ↓zq_ai, ↓zq_aj, zq_ak, ↓zq_al, ↓zq_am, e_b1, e_b2, x_o1, x_o2, r_O0, r_F15, r_F18, r_P15, w1, hM1, k2, c0, k]
  · have c5 : x5 = 1 := by omega
    rcases x_lt n most with ⟨c1, c1_n⟩ | ⟨c1, c1_n⟩
    · obtain ⟨s, ks, hs, hs1⟩ := r_mayCome (ks := kinds) (M := M2) n0 (p := p) (by omega)
      rcases hs with hs | hs
      · subst hs
        obtain ⟨r, M', k, z⟩ := tail M2 n 0 h2 rfl hn (Or.inl rfl) (fun e => absurd e (by decide)) (fun e => absurd e (by decide))
        refine ⟨r, M', ?_, z⟩
        rw [E_V_eq]
        show e_tv E_C (E_V 187) e_t187_6 [192, p, most, kinds, n, x5, x6] M = _
        unfold e_t187_6
        simp [zq_a, zq_b, zq_c, zq_d, zq_e, zq_f, zq_g, zq_h, zq_i, zq_j, zq_k, zq_l, zq_m, zq_n, zq_o, zq_p, zq_q, zq_r, zq_s, zq_t, zq_u, zq_v, zq_w, zq_x, zq_y, zq_z, zq_A, zq_B, zq_C, zq_D, zq_E, zq_F, zq_G, zq_H, zq_I, zq_J, zq_K, zq_L, ↓zq_M, ↓zq_N, ↓zq_O, ↓zq_P, ↓zq_Q, ↓zq_R, zq_S, zq_T, zq_U, zq_V, zq_W, zq_X, zq_Y, zq_Z, zq_0, zq_1, zq_2, zq_3, zq_4, zq_5, ↓zq_6, ↓zq_7, ↓zq_8, ↓zq_9, ↓zq_aa, zq_ab, zq_ac, zq_ad, zq_ae, zq_af, zq_ag, ↓zq_ah, ↓zq_ai, ↓zq_aj, zq_ak, ↓zq_al, ↓zq_am, e_b1, e_b2, x_o1, x_o2, r_O0, r_F15, r_F18, r_P15, w1, hM1, k2, c0, c1, c1_n, ks, k]
      · subst hs
        obtain ⟨hq0, hbit⟩ := hs1 rfl
        have hK := r_W_kind hW (q := M2 192 18) ⟨n0, by rw [hpc]; exact hq0⟩
        rw [hpc] at hK
        obtain ⟨K0, K1, K2, K3⟩ := hK
        have eK : r_G M2 (28 * M2 192 18) = g0 (28 * M2 192 18) := h2.2.2.1 _ (by omega) (by omega) (by omega)
        rw [eK] at hbit
        obtain ⟨-, B3, B7⟩ := r_bits K0
        have hmemq : r_mem kd g0 p (M2 192 18) := by
          rcases hkd with ⟨h2, -, h3⟩ | ⟨h2, -, h3⟩
          · rw [h3] at hbit
            rcases B3 hbit with e | e
            · exact Or.inl (K1 e)
            · exact Or.inr (Or.inl (K2 e))
          · rw [h3] at hbit
            rcases B7 hbit with e | e | e
            · exact Or.inl (K1 e)
            · exact Or.inr (Or.inl (K2 e))
            · exact Or.inr (Or.inr ⟨h2, K3 e⟩)
        have v1 : e_w (28 * p) = 28 * p := a_w_id (by omega) (by omega)
        have v2 : e_w (28 * p + 3) = 28 * p + 3 := a_w_id (by omega) (by omega)
        have v3 : e_w (28 * p + 3 + n) = 28 * p + 3 + n := a_w_id (by omega) (by omega)
        have v4 : e_w (28 * M2 192 18) = 28 * M2 192 18 := a_w_id (by omega) (by omega)
        have v5 : e_w (28 * M2 192 18 + 1) = 28 * M2 192 18 + 1 := a_w_id (by omega) (by omega)
        have v6 : e_w (n + 1) = n + 1 := a_w_id (by omega) (by omega)
        have v7 : e_w (p + 1) = p + 1 := a_w_id (by omega) (by omega)
        have s1 := fun v => r_stw (i := 28 * p + 3 + n) (v := v) (M := M2) (by omega) (by omega)
        have s2 := fun v M => r_stw (i := 28 * M2 192 18 + 1) (v := v) (M := M) (by omega) (by omega)
        have h5 := r_mk_w (i := 28 * p + 3 + n) (v := M2 192 18) h2 hp0 (by omega) (fun _ => by omega) (fun e => by omega) ⟨by omega, by omega⟩
        have h6 := r_mk_o (q := M2 192 18) (v := p + 1) h5 ⟨n0, hq0⟩ ⟨by omega, by omega⟩
        have hmm : ∀ k, 0 ≤ k → k < n + 1 → r_mem kd g0 p (r_G (e_up (e_up M2 193 (28 * p + 3 + n).toNat (M2 192 18)) 193 (28 * M2 192 18 + 1).toNat (p + 1)) (28 * p + 3 + k)) := by
          intro k k0 k1
          rw [r_G_n (by omega) (by omega)]
          by_cases hkn : k = n
          · subst hkn
            rw [r_G_s]
            exact hmemq
          · rw [r_G_n (by omega) (by omega), eG2]
            exact hm c5 k k0 (by omega)
        obtain ⟨r, M', k, z⟩ := tail _ (n + 1) 1 h6 (r_n192.trans r_n192) ⟨by omega, by omega⟩ (Or.inr rfl) (fun _ => ⟨by omega, by omega⟩) (fun _ => hmm)
        refine ⟨r, M', ?_, z⟩
        rw [E_V_eq]
        show e_tv E_C (E_V 187) e_t187_6 [192, p, most, kinds, n, x5, x6] M = _
        unfold e_t187_6
        simp [zq_a, zq_b, zq_c, zq_d, zq_e, zq_f, zq_g, zq_h, zq_i, zq_j, zq_k, zq_l, zq_m, zq_n, zq_o, zq_p, zq_q, zq_r, zq_s, zq_t, zq_u, zq_v, zq_w, zq_x, zq_y, zq_z, zq_A, zq_B, zq_C, zq_D, zq_E, zq_F, zq_G, zq_H, zq_I, zq_J, zq_K, zq_L, ↓zq_M, ↓zq_N, ↓zq_O, ↓zq_P, ↓zq_Q, ↓zq_R, zq_S, zq_T, zq_U, zq_V, zq_W, zq_X, zq_Y, zq_Z, zq_0, zq_1, zq_2, zq_3, zq_4, zq_5, ↓zq_6, ↓zq_7, ↓zq_8, ↓zq_9, ↓zq_aa, zq_ab, zq_ac, zq_ad, zq_ae, zq_af, zq_ag, ↓zq_ah, ↓zq_ai, ↓zq_aj, zq_ak, ↓zq_al, ↓zq_am, e_b1, e_b2, x_o1, x_o2, r_O0, r_F15, r_F18, r_P15, r_n192, w1, hM1, k2, c0, c1, c1_n, ks, v1, v2, v3, v4, v5, v6, v7, s1, s2, k]
    · obtain ⟨r, M', k, z⟩ := tail M2 n 0 h2 rfl hn (Or.inl rfl) (fun e => absurd e (by decide)) (fun e => absurd e (by decide))
      refine ⟨r, M', ?_, z⟩
      rw [E_V_eq]
      show e_tv E_C (E_V 187) e_t187_6 [192, p, most, kinds, n, x5, x6] M = _
      unfold e_t187_6
      simp [zq_a, zq_b, zq_c, zq_d, zq_e, zq_f, zq_g, zq_h, zq_i, zq_j, zq_k, zq_l, zq_m, zq_n, zq_o, zq_p, zq_q, zq_r, zq_s, zq_t, zq_u, zq_v, zq_w, zq_x, zq_y, zq_z, zq_A, zq_B, zq_C, zq_D, zq_E, zq_F, zq_G, zq_H, zq_I, zq_J, zq_K, zq_L, ↓zq_M, ↓zq_N, ↓zq_O, ↓zq_P, ↓zq_Q, ↓zq_R, zq_S, zq_T, zq_U, zq_V, zq_W, zq_X, zq_Y, zq_Z, zq_0, zq_1, zq_2, zq_3, zq_4, zq_5, ↓zq_6, ↓zq_7, ↓zq_8, ↓zq_9, ↓zq_aa, zq_ab, zq_ac, zq_ad, zq_ae, zq_af, zq_ag, ↓zq_ah, ↓zq_ai, ↓zq_aj, zq_ak, ↓zq_al, ↓zq_am, e_b1, e_b2, x_o1, x_o2, r_O0, r_F15, r_F18, r_P15, w1, hM1, k2, c0, c1, c1_n, k]
theorem r_mo_loop {p kd most kinds : Int} {g0 : Int → Int} {M0 : EM} (hp : p < 40) (hW : r_W g0) (hpc : g0 1198 = p) (hb : r_bl M0) (hkd : kd = 2 ∧ most = 6 ∧ kinds = 3 ∨ kd = 3 ∧ most = 1 ∧ kinds = 7) : ∀ (m : Nat) (n x5 x6 : Int) (M : EM), r_mk p kd g0 M0 M → (M0 192 17 - M 192 15).toNat ≤ m → (0 ≤ M 192 15 ∧ M 192 15 ≤ 120) → (0 ≤ n ∧ n ≤ 6) → (x5 = 0 ∨ x5 = 1) → (x5 = 1 → ∀ k, 0 ≤ k → k < n → r_mem kd g0 p (r_G M (28 * p + 3 + k))) → r_MO p kd most g0 M0 M (E_V 187 6 [192, p, most, kinds, n, x5, x6] M) := by
  intro m
  induction m with
  | zero =>
    intro n x5 x6 M hk hm hq hn hx hmm
    exact r_mo_step hp hW hpc hb hkd hk hq hn hx hmm (fun M1 n x5 x6 h1 h2 h3 h4 h5 h6 => by omega)
  | succ m ih =>
    intro n x5 x6 M hk hm hq hn hx hmm
    have hb3 := hb.2.2
    exact r_mo_step hp hW hpc hb hkd hk hq hn hx hmm (fun M1 n x5 x6 h1 h2 h3 h4 h5 h6 => ih n x5 x6 M1 h1 (by omega) ⟨by omega, by omega⟩ h4 h5 h6)
theorem r_makesOver {p kd most kinds : Int} {g0 : Int → Int} {M0 M : EM} (hp : p < 40) (hW : r_W g0) (hpc : g0 1198 = p) (hb : r_bl M0) (hkd : kd = 2 ∧ most = 6 ∧ kinds = 3 ∨ kd = 3 ∧ most = 1 ∧ kinds = 7) (hk : r_mk p kd g0 M0 M) (hq : 0 ≤ M 192 15 ∧ M 192 15 ≤ 120) : r_MO p kd most g0 M0 M (E_C 187 [192, p, most, kinds] M) := by
  obtain ⟨r, M', k, z⟩ := r_mo_loop hp hW hpc hb hkd _ 0 1 0 M hk (Nat.le_refl _) hq (by decide) (Or.inr rfl) (fun _ k k0 k1 => by omega)
  refine ⟨r, M', ?_, z⟩
  rw [r_ent (show e_rok 187 [192, p, most, kinds] = true from decide_eq_true r_ref)]
  show e_tv E_C (E_V 187) e_t187_0 [192, p, most, kinds, 0, 0, 0] M = _
  unfold e_t187_0
  simp [zq_a, zq_b, zq_c, zq_d, zq_e, zq_f, zq_g, zq_h, zq_i, zq_j, zq_k, zq_l, zq_m, zq_n, zq_o, zq_p, zq_q, zq_r, zq_s, zq_t, zq_u, zq_v, zq_w, zq_x, zq_y, zq_z, zq_A, zq_B, zq_C, zq_D, zq_E, zq_F, zq_G, zq_H, zq_I, zq_J, zq_K, zq_L, ↓zq_M, ↓zq_N, ↓zq_O, ↓zq_P, ↓zq_Q, ↓zq_R, zq_S, zq_T, zq_U, zq_V, zq_W, zq_X, zq_Y, zq_Z, zq_0, zq_1, zq_2, zq_3, zq_4, zq_5, ↓zq_6, ↓zq_7, ↓zq_8, ↓zq_9, ↓zq_aa, zq_ab, zq_ac, zq_ad, zq_ae, zq_af, zq_ag, ↓zq_ah, ↓zq_ai, ↓zq_aj, zq_ak, ↓zq_al, ↓zq_am, e_b1, e_b2, x_o1, x_o2, k]
end
