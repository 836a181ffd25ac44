/-! what the reference sets -/
def r_T (W : AW) (u : Nat) (as : List Int) (M : EM) : Prop := ∃ r M', E_C u as M = some (r, M') ∧ r_J M' ∧ a_fr (W ++ r_wq) M M'
theorem r_Tq {W : AW} {u : Nat} {as : List Int} {M : EM} (hJ : r_J M) (h : r_Q u as M) : r_T W u as M := by
  obtain ⟨r, M', k, t1, t2, t3⟩ := h
  exact ⟨r, M', k, r_J_q hJ t1 t2 t3, c_sub_r t2⟩
theorem r_Ts {W : AW} {M : EM} {u : Nat} {as : List Int} {r : Int} (hJ : r_J M) (k : E_C u as M = some (r, M)) : r_T W u as M := ⟨r, M, k, hJ, a_fr_rf⟩
theorem r_G_s {M : EM} {i v : Int} : r_G (e_up M 193 i.toNat v) i = v := c_up_s
theorem r_G_n {M : EM} {i j v : Int} (hi : 1 ≤ i) (hj : j ≠ i) : r_G (e_up M 193 i.toNat v) j = r_G M j := c_up_n (fun hc => by have := hc.2; omega)
theorem r_J_row {M M' : EM} (hJ : r_J M) (hM : a_M M') (hf : ∀ id k, id ≠ 193 → M' id k = M id k) (hW : r_W (r_G M')) : r_J M' := by
  obtain ⟨j1, j2, j3, j4, j5⟩ := hJ
  have e2 : r_Gi M' = r_Gi M := funext fun i => hf _ _ (by decide)
  refine ⟨hM, fun j hj => ?_, hW, ?_, ?_⟩
  · rw [hf _ _ (by decide)]; exact j2 j hj
  · rw [hf _ _ (by decide), e2]; exact j4
  · rw [hf _ _ (by decide)]; exact j5
theorem r_upw {M : EM} {i v : Int} (hv : -2147483648 ≤ v ∧ v ≤ 2147483647) (hM : a_M M) : a_M (e_up M 193 i.toNat v) := r_up (by decide) (by decide +kernel) (by decide +kernel) hv hM
theorem r_frw {W : AW} {M : EM} {i v : Int} {a b : Nat} (h : (193, a, b) ∈ W) (h0 : (a : Int) ≤ i) (h1 : i ≤ (b : Int)) : a_fr (W ++ r_wq) M (e_up M 193 i.toNat v) := fun id k hw => c_up_n (fun hc => hw _ (List.mem_append.mpr (Or.inl h)) ⟨hc.1.symm, by
  have := hc.2
  show a ≤ k
  omega, by
  have := hc.2
  show k ≤ b
  omega⟩)
theorem r_n193 {M : EM} {i v : Int} {id k : Nat} (h : id ≠ 193) : (e_up M 193 i.toNat v) id k = M id k := c_up_n (fun hc => h hc.1)
theorem r_stw {i v : Int} {M : EM} (h0 : 0 ≤ i) (hi : i < 1330) : e_st 100 [193, i, v] M = some (e_up M 193 i.toNat v) := r_st (n := 1330) (by decide) (by decide +kernel) (by decide +kernel) h0 hi
/-- cells of PARTS: settings and DEAD; a BOX's own; where one lies -/
def r_wp (lo hi : Nat) : AW := (List.range 40).map (fun q => (193, 28 * q + lo, 28 * q + hi))
def r_wSt : AW := r_wp 15 19
def r_wBx : AW := r_wp 4 8
def r_wL : AW := r_wp 20 24
theorem r_frp {M : EM} {p i v : Int} {lo up : Nat} (hp : 0 ≤ p ∧ p < 40) (hi : 28 * p + lo ≤ i ∧ i ≤ 28 * p + up) : a_fr (r_wp lo up ++ r_wq) M (e_up M 193 i.toNat v) := by
  refine r_frw (a := 28 * p.toNat + lo) (b := 28 * p.toNat + up) ?_ (by omega) (by omega)
  exact List.mem_map.mpr ⟨p.toNat, List.mem_range.mpr (by omega), rfl⟩
/-- one cell of a PART that doesn't tell how it is made -/
theorem r_W_cell {M : EM} {p j v : Int} (hW : r_W (r_G M)) (hp : 0 ≤ p ∧ p < 40) (hk : r_G M (28 * p) = 0) (hj : 15 ≤ j ∧ j ≤ 19) : r_W (r_G (e_up M 193 (28 * p + j).toNat v)) :=
  r_W_one hW (fun i hi => r_G_n (by omega) (by omega)) (r_G_n (by omega) (by omega)) (r_G_n (by omega) (by omega)) hp (Or.inl ⟨hk, r_lies_eq (fun t t0 t1 => r_G_n (by omega) (by omega))⟩)
theorem r_W_box {M : EM} {p j v : Int} (hW : r_W (r_G M)) (hp : 0 ≤ p ∧ p < 40) (hk : r_G M (28 * p) = 3) (hj : 4 ≤ j ∧ j ≤ 8) (h4 : j = 4 → 0 ≤ v) : r_W (r_G (e_up M 193 (28 * p + j).toNat v)) :=
  r_W_one hW (fun i hi => r_G_n (by omega) (by omega)) (r_G_n (by omega) (by omega)) (r_G_n (by omega) (by omega)) hp (Or.inr ⟨hk, r_G_n (by omega) (by omega), fun h => by
    by_cases c : j = 4
    · subst c
      rw [r_G_s]
      exact h4 rfl
    · rw [r_G_n (by omega) (by omega)]
      exact h⟩)
theorem r_set {p w v : Int} {M : EM} (hJ : r_J M) (hv : -2147483648 ≤ v ∧ v ≤ 2147483647) : r_T r_wSt 196 [192, p, w, v] M := by
  have hW := (r_J_E hJ).2.1
  by_cases q0 : 0 ≤ p ∧ p < r_G M 1198
  · have ip := r_ip1 hW q0
    have h40 := r_40 hW q0
    have kk : E_C 170 [192, p] M = some (r_G M (28 * p), M) := r_kind h40
    by_cases q1 : 0 ≤ w ∧ w ≤ 3
    · have i1 := r_in1 (M := M) q1
      obtain ⟨z, hz⟩ : ∃ z : Int, z = (if w = 0 then 100 else if w = 3 then 40 else 50) := ⟨_, rfl⟩
      by_cases q2 : 0 ≤ v ∧ v ≤ z
      · have i2 := r_in1 (M := M) q2
        by_cases q3 : r_G M (28 * p) = 0
        · have w1 : e_w (28 * p) = 28 * p := a_w_id (by omega) (by omega)
          have w2 : e_w (28 * p + 15) = 28 * p + 15 := a_w_id (by omega) (by omega)
          have w3 : e_w (28 * p + 15 + w) = 28 * p + 15 + w := a_w_id (by omega) (by omega)
          have l1 : e_op 60 [193, 28 * p + 15 + w] M = some (r_G M (28 * p + 15 + w)) := r_rd (by omega) (by omega)
          have st := r_stw (i := 28 * p + 15 + w) (v := v) (M := M) (by omega) (by omega)
          refine ⟨r_G M (28 * p + 15 + w), e_up M 193 (28 * p + 15 + w).toNat v, ?_, r_J_row hJ (r_upw hv hJ.1) (fun id k h => r_n193 h) ?_, r_frp (p := p) (lo := 15) (up := 19) ⟨by omega, by omega⟩ ⟨by omega, by omega⟩⟩
          · rw [r_ent (show e_rok 196 [192, p, w, v] = true from decide_eq_true r_ref)]
            show e_tv E_C (E_V 196) e_t196_0 [192, p, w, v, 0] M = _
            unfold e_t196_0
            by_cases c0 : w = 0
            · subst c0
              rw [if_pos rfl] at hz
              subst hz
              simp only [Int.add_zero] at w3 l1 st
              simp [zq_a, zq_b, zq_c, zq_d, zq_e, zq_f, zq_g, zq_h, zq_i, zq_j, zq_k, zq_l, zq_m, zq_n, zq_o, zq_p, zq_q, zq_r, zq_s, zq_t, zq_u, zq_v, zq_w, zq_x, zq_y, zq_z, zq_A, zq_B, zq_C, zq_D, zq_E, zq_F, zq_G, zq_H, zq_I, zq_J, zq_K, zq_L, ↓zq_M, ↓zq_N, ↓zq_O, ↓zq_P, ↓zq_Q, ↓zq_R, zq_S, zq_T, zq_U, zq_V, zq_W, zq_X, zq_Y, zq_Z, zq_0, zq_1, zq_2, zq_3, zq_4, zq_5, ↓zq_6, ↓zq_7, ↓zq_8, ↓zq_9, ↓zq_aa, zq_ab, zq_ac, zq_ad, zq_ae, zq_af, zq_ag, ↓zq_ah, ↓zq_ai, ↓zq_aj, zq_ak, ↓zq_al, ↓zq_am, e_b1, e_b2, x_o1, x_o2, r_O0, ip, i1, i2, kk, q3, w1, w2, w3, l1, st]
            · by_cases c3 : w = 3
              · subst c3
                rw [if_neg (by decide), if_pos rfl] at hz
                subst hz
                simp [zq_a, zq_b, zq_c, zq_d, zq_e, zq_f, zq_g, zq_h, zq_i, zq_j, zq_k, zq_l, zq_m, zq_n, zq_o, zq_p, zq_q, zq_r, zq_s, zq_t, zq_u, zq_v, zq_w, zq_x, zq_y, zq_z, zq_A, zq_B, zq_C, zq_D, zq_E, zq_F, zq_G, zq_H, zq_I, zq_J, zq_K, zq_L, ↓zq_M, ↓zq_N, ↓zq_O, ↓zq_P, ↓zq_Q, ↓zq_R, zq_S, zq_T, zq_U, zq_V, zq_W, zq_X, zq_Y, zq_Z, zq_0, zq_1, zq_2, zq_3, zq_4, zq_5, ↓zq_6, ↓zq_7, ↓zq_8, ↓zq_9, ↓zq_aa, zq_ab, zq_ac, zq_ad, zq_ae, zq_af, zq_ag, ↓zq_ah, ↓zq_ai, ↓zq_aj, zq_ak, ↓zq_al, ↓zq_am, e_b1, e_b2, x_o1, x_o2, r_O0, ip, i1, i2, kk, q3, w1, w2, w3, l1, st]
              · rw [if_neg c0, if_neg c3] at hz
                subst hz
                simp [zq_a, zq_b, zq_c, zq_d, zq_e, zq_f, zq_g, zq_h, zq_i, zq_j, zq_k, zq_l, zq_m, zq_n, zq_o, zq_p, zq_q, zq_r, zq_s, zq_t, zq_u, zq_v, zq_w, zq_x, zq_y, zq_z, zq_A, zq_B, zq_C, zq_D, zq_E, zq_F, zq_G, zq_H, zq_I, zq_J, zq_K, zq_L, ↓zq_M, ↓zq_N, ↓zq_O, ↓zq_P, ↓zq_Q, ↓zq_R, zq_S, zq_T, zq_U, zq_V, zq_W, zq_X, zq_Y, zq_Z, zq_0, zq_1, zq_2, zq_3, zq_4, zq_5, ↓zq_6, ↓zq_7, ↓zq_8, ↓zq_9, ↓zq_aa, zq_ab, zq_ac, zq_ad, zq_ae, zq_af, zq_ag, ↓zq_ah, ↓zq_ai, ↓zq_aj, zq_ak, ↓zq_al, ↓zq_am, e_b1, e_b2, x_o1, x_o2, r_O0, ip, i1, i2, kk, q3, w1, w2, w3, l1, st, c0, c3]
          · rw [show 28 * p + 15 + w = 28 * p + (15 + w) by omega]
            exact r_W_cell hW h40 q3 (by omega)
        · refine r_Ts (r := -3) hJ ?_
          rw [r_ent (show e_rok 196 [192, p, w, v] = true from decide_eq_true r_ref)]
          show e_tv E_C (E_V 196) e_t196_0 [192, p, w, v, 0] M = _
          unfold e_t196_0
          by_cases c0 : w = 0
          · subst c0
            rw [if_pos rfl] at hz
            subst hz
            simp [zq_a, zq_b, zq_c, zq_d, zq_e, zq_f, zq_g, zq_h, zq_i, zq_j, zq_k, zq_l, zq_m, zq_n, zq_o, zq_p, zq_q, zq_r, zq_s, zq_t, zq_u, zq_v, zq_w, zq_x, zq_y, zq_z, zq_A, zq_B, zq_C, zq_D, zq_E, zq_F, zq_G, zq_H, zq_I, zq_J, zq_K, zq_L, ↓zq_M, ↓zq_N, ↓zq_O, ↓zq_P, ↓zq_Q, ↓zq_R, zq_S, zq_T, zq_U, zq_V, zq_W, zq_X, zq_Y, zq_Z, zq_0, zq_1, zq_2, zq_3, zq_4, zq_5, ↓zq_6, ↓zq_7, ↓zq_8, ↓zq_9, ↓zq_aa, zq_ab, zq_ac, zq_ad, zq_ae, zq_af, zq_ag, ↓zq_ah, ↓zq_ai, ↓zq_aj, zq_ak, ↓zq_al, ↓zq_am, e_b1, e_b2, x_o1, x_o2, r_O0, ip, i1, i2, kk, q3]
          · by_cases c3 : w = 3
            · subst c3
              rw [if_neg (by decide), if_pos rfl] at hz
              subst hz
              simp [zq_a, zq_b, zq_c, zq_d, zq_e, zq_f, zq_g, zq_h, zq_i, zq_j, zq_k, zq_l, zq_m, zq_n, zq_o, zq_p, zq_q, zq_r, zq_s, zq_t, zq_u, zq_v, zq_w, zq_x, zq_y, zq_z, zq_A, zq_B, zq_C, zq_D, zq_E, zq_F, zq_G, zq_H, zq_I, zq_J, zq_K, zq_L, ↓zq_M, ↓zq_N, ↓zq_O, ↓zq_P, ↓zq_Q, ↓zq_R, zq_S, zq_T, zq_U, zq_V, zq_W, zq_X, zq_Y, zq_Z, zq_0, zq_1, zq_2, zq_3, zq_4, zq_5, ↓zq_6, ↓zq_7, ↓zq_8, ↓zq_9, ↓zq_aa, zq_ab, zq_ac, zq_ad, zq_ae, zq_af, zq_ag, ↓zq_ah, ↓zq_ai, ↓zq_aj, zq_ak, ↓zq_al, ↓zq_am, e_b1, e_b2, x_o1, x_o2, r_O0, ip, i1, i2, kk, q3]
            · rw [if_neg c0, if_neg c3] at hz
              subst hz
              simp [zq_a, zq_b, zq_c, zq_d, zq_e, zq_f, zq_g, zq_h, zq_i, zq_j, zq_k, zq_l, zq_m, zq_n, zq_o, zq_p, zq_q, zq_r, zq_s, zq_t, zq_u, zq_v, zq_w, zq_x, zq_y, zq_z, zq_A, zq_B, zq_C, zq_D, zq_E, zq_F, zq_G, zq_H, zq_I, zq_J, zq_K, zq_L, ↓zq_M, ↓zq_N, ↓zq_O, ↓zq_P, ↓zq_Q, ↓zq_R, zq_S, zq_T, zq_U, zq_V, zq_W, zq_X, zq_Y, zq_Z, zq_0, zq_1, zq_2, zq_3, zq_4, zq_5, ↓zq_6, ↓zq_7, ↓zq_8, ↓zq_9, ↓zq_aa, zq_ab, zq_ac, zq_ad, zq_ae, zq_af, zq_ag, ↓zq_ah, ↓zq_ai, ↓zq_aj, zq_ak, ↓zq_al, ↓zq_am, e_b1, e_b2, x_o1, x_o2, r_O0, ip, i1, i2, kk, q3, c0, c3]
      · have i2 := r_in0 (M := M) q2
        refine r_Ts (r := -1) hJ ?_
        rw [r_ent (show e_rok 196 [192, p, w, v] = true from decide_eq_true r_ref)]
        show e_tv E_C (E_V 196) e_t196_0 [192, p, w, v, 0] M = _
        unfold e_t196_0
        by_cases c0 : w = 0
        · subst c0
          rw [if_pos rfl] at hz
          subst hz
          simp [zq_a, zq_b, zq_c, zq_d, zq_e, zq_f, zq_g, zq_h, zq_i, zq_j, zq_k, zq_l, zq_m, zq_n, zq_o, zq_p, zq_q, zq_r, zq_s, zq_t, zq_u, zq_v, zq_w, zq_x, zq_y, zq_z, zq_A, zq_B, zq_C, zq_D, zq_E, zq_F, zq_G, zq_H, zq_I, zq_J, zq_K, zq_L, ↓zq_M, ↓zq_N, ↓zq_O, ↓zq_P, ↓zq_Q, ↓zq_R, zq_S, zq_T, zq_U, zq_V, zq_W, zq_X, zq_Y, zq_Z, zq_0, zq_1, zq_2, zq_3, zq_4, zq_5, ↓zq_6, ↓zq_7, ↓zq_8, ↓zq_9, ↓zq_aa, zq_ab, zq_ac, zq_ad, zq_ae, zq_af, zq_ag, ↓zq_ah, ↓zq_ai, ↓zq_aj, zq_ak, ↓zq_al, ↓zq_am, e_b1, e_b2, x_o1, x_o2, r_O0, ip, i1, i2]
        · by_cases c3 : w = 3
          · subst c3
            rw [if_neg (by decide), if_pos rfl] at hz
            subst hz
            simp [zq_a, zq_b, zq_c, zq_d, zq_e, zq_f, zq_g, zq_h, zq_i, zq_j, zq_k, zq_l, zq_m, zq_n, zq_o, zq_p, zq_q, zq_r, zq_s, zq_t, zq_u, zq_v, zq_w, zq_x, zq_y, zq_z, zq_A, zq_B, zq_C, zq_D, zq_E, zq_F, zq_G, zq_H, zq_I, zq_J, zq_K, zq_L, ↓zq_M, ↓zq_N, ↓zq_O, ↓zq_P, ↓zq_Q, ↓zq_R, zq_S, zq_T, zq_U, zq_V, zq_W, zq_X, zq_Y, zq_Z, zq_0, zq_1, zq_2, zq_3, zq_4, zq_5, ↓zq_6, ↓zq_7, ↓zq_8, ↓zq_9, ↓zq_aa, zq_ab, zq_ac, zq_ad, zq_ae, zq_af, zq_ag, ↓zq_ah, ↓zq_ai, ↓zq_aj, zq_ak, ↓zq_al, ↓zq_am, e_b1, e_b2, x_o1, x_o2, r_O0, ip, i1, i2]
          · rw [if_neg c0, if_neg c3] at hz
            subst hz
            simp [zq_a, zq_b, zq_c, zq_d, zq_e, zq_f, zq_g, zq_h, zq_i, zq_j, zq_k, zq_l, zq_m, zq_n, zq_o, zq_p, zq_q, zq_r, zq_s, zq_t, zq_u, zq_v, zq_w, zq_x, zq_y, zq_z, zq_A, zq_B, zq_C, zq_D, zq_E, zq_F, zq_G, zq_H, zq_I, zq_J, zq_K, zq_L, ↓zq_M, ↓zq_N, ↓zq_O, ↓zq_P, ↓zq_Q, ↓zq_R, zq_S, zq_T, zq_U, zq_V, zq_W, zq_X, zq_Y, zq_Z, zq_0, zq_1, zq_2, zq_3, zq_4, zq_5, ↓zq_6, ↓zq_7, ↓zq_8, ↓zq_9, ↓zq_aa, zq_ab, zq_ac, zq_ad, zq_ae, zq_af, zq_ag, ↓zq_ah, ↓zq_ai, ↓zq_aj, zq_ak, ↓zq_al, ↓zq_am, e_b1, e_b2, x_o1, x_o2, r_O0, ip, i1, i2, c0, c3]
    · have i1 := r_in0 (M := M) q1
      refine r_Ts (r := -1) hJ ?_
      rw [r_ent (show e_rok 196 [192, p, w, v] = true from decide_eq_true r_ref)]
      show e_tv E_C (E_V 196) e_t196_0 [192, p, w, v, 0] M = _
      unfold e_t196_0
      simp [zq_a, zq_b, zq_c, zq_d, zq_e, zq_f, zq_g, zq_h, zq_i, zq_j, zq_k, zq_l, zq_m, zq_n, zq_o, zq_p, zq_q, zq_r, zq_s, zq_t, zq_u, zq_v, zq_w, zq_x, zq_y, zq_z, zq_A, zq_B, zq_C, zq_D, zq_E, zq_F, zq_G, zq_H, zq_I, zq_J, zq_K, zq_L, ↓zq_M, ↓zq_N, ↓zq_O, ↓zq_P, ↓zq_Q, ↓zq_R, zq_S, zq_T, zq_U, zq_V, zq_W, zq_X, zq_Y, zq_Z, zq_0, zq_1, zq_2, zq_3, zq_4, zq_5, ↓zq_6, ↓zq_7, ↓zq_8, ↓zq_9, ↓zq_aa, zq_ab, zq_ac, zq_ad, zq_ae, zq_af, zq_ag, ↓zq_ah, ↓zq_ai, ↓zq_aj, zq_ak, ↓zq_al, ↓zq_am, e_b1, e_b2, x_o1, x_o2, ip, i1]
  · have ip := r_ip0 hW q0
    refine r_Ts (r := -1) hJ ?_
    rw [r_ent (show e_rok 196 [192, p, w, v] = true from decide_eq_true r_ref)]
    show e_tv E_C (E_V 196) e_t196_0 [192, p, w, v, 0] M = _
    unfold e_t196_0
    simp [zq_a, zq_b, zq_c, zq_d, zq_e, zq_f, zq_g, zq_h, zq_i, zq_j, zq_k, zq_l, zq_m, zq_n, zq_o, zq_p, zq_q, zq_r, zq_s, zq_t, zq_u, zq_v, zq_w, zq_x, zq_y, zq_z, zq_A, zq_B, zq_C, zq_D, zq_E, zq_F, zq_G, zq_H, zq_I, zq_J, zq_K, zq_L, ↓zq_M, ↓zq_N, ↓zq_O, ↓zq_P, ↓zq_Q, ↓zq_R, zq_S, zq_T, zq_U, zq_V, zq_W, zq_X, zq_Y, zq_Z, zq_0, zq_1, zq_2, zq_3, zq_4, zq_5, ↓zq_6, ↓zq_7, ↓zq_8, ↓zq_9, ↓zq_aa, zq_ab, zq_ac, zq_ad, zq_ae, zq_af, zq_ag, ↓zq_ah, ↓zq_ai, ↓zq_aj, zq_ak, ↓zq_al, ↓zq_am, e_b1, e_b2, x_o1, x_o2, ip]
theorem r_dead {p is : Int} {M : EM} (hJ : r_J M) : r_T r_wSt 197 [192, p, is] M := by
  have hW := (r_J_E hJ).2.1
  by_cases q0 : 0 ≤ p ∧ p < r_G M 1198
  · have ip := r_ip1 hW q0
    have h40 := r_40 hW q0
    have kk : E_C 170 [192, p] M = some (r_G M (28 * p), M) := r_kind h40
    by_cases q3 : r_G M (28 * p) = 0
    · have w1 : e_w (28 * p) = 28 * p := a_w_id (by omega) (by omega)
      have w2 : e_w (28 * p + 19) = 28 * p + 19 := a_w_id (by omega) (by omega)
      have l1 : e_op 60 [193, 28 * p + 19] M = some (r_G M (28 * p + 19)) := r_rd (by omega) (by omega)
      have st := fun v => r_stw (i := 28 * p + 19) (v := v) (M := M) (by omega) (by omega)
      have hset : ∀ v : Int, (v = 0 ∨ v = 1) → r_J (e_up M 193 (28 * p + 19).toNat v) ∧ a_fr (r_wSt ++ r_wq) M (e_up M 193 (28 * p + 19).toNat v) := fun v hv => ⟨r_J_row hJ (r_upw ⟨by omega, by omega⟩ hJ.1) (fun id k h => r_n193 h) (r_W_cell hW h40 q3 (by decide)), r_frp (p := p) (lo := 15) (up := 19) ⟨by omega, by omega⟩ ⟨by omega, by omega⟩⟩
      obtain ⟨b, hb⟩ : ∃ b : Int, b = if r_G M (28 * p + 19) = 1 then 1 else 0 := ⟨_, rfl⟩
      obtain ⟨n, hn⟩ : ∃ n : Int, n = if is = 0 then 0 else 1 := ⟨_, rfl⟩
      have hn1 : n = 0 ∨ n = 1 := by
        by_cases c : is = 0
        · rw [if_pos c] at hn; exact Or.inl hn
        · rw [if_neg c] at hn; exact Or.inr hn
      refine ⟨if b = is then 0 else 1, e_up M 193 (28 * p + 19).toNat n, ?_, hset n hn1⟩
      rw [r_ent (show e_rok 197 [192, p, is] = true from decide_eq_true r_ref)]
      show e_tv E_C (E_V 197) e_t197_0 [192, p, is, 0] M = _
      unfold e_t197_0
      by_cases c1 : r_G M (28 * p + 19) = 1
      · rw [if_pos c1] at hb
        subst hb
        by_cases c2 : is = 0
        · rw [if_pos c2] at hn
          subst hn
          simp [zq_a, zq_b, zq_c, zq_d, zq_e, zq_f, zq_g, zq_h, zq_i, zq_j, zq_k, zq_l, zq_m, zq_n, zq_o, zq_p, zq_q, zq_r, zq_s, zq_t, zq_u, zq_v, zq_w, zq_x, zq_y, zq_z, zq_A, zq_B, zq_C, zq_D, zq_E, zq_F, zq_G, zq_H, zq_I, zq_J, zq_K, zq_L, ↓zq_M, ↓zq_N, ↓zq_O, ↓zq_P, ↓zq_Q, ↓zq_R, zq_S, zq_T, zq_U, zq_V, zq_W, zq_X, zq_Y, zq_Z, zq_0, zq_1, zq_2, zq_3, zq_4, zq_5, ↓zq_6, ↓zq_7, ↓zq_8, ↓zq_9, ↓zq_aa, zq_ab, zq_ac, zq_ad, zq_ae, zq_af, zq_ag, ↓zq_ah, ↓zq_ai, ↓zq_aj, zq_ak, ↓zq_al, ↓zq_am, e_b1, e_b2, x_o1, x_o2, r_O0, ip, kk, q3, w1, w2, l1, st, c1, c2]
        · rw [if_neg c2] at hn
          subst hn
          by_cases c3 : (1 : Int) = is
          · subst c3
            simp [zq_a, zq_b, zq_c, zq_d, zq_e, zq_f, zq_g, zq_h, zq_i, zq_j, zq_k, zq_l, zq_m, zq_n, zq_o, zq_p, zq_q, zq_r, zq_s, zq_t, zq_u, zq_v, zq_w, zq_x, zq_y, zq_z, zq_A, zq_B, zq_C, zq_D, zq_E, zq_F, zq_G, zq_H, zq_I, zq_J, zq_K, zq_L, ↓zq_M, ↓zq_N, ↓zq_O, ↓zq_P, ↓zq_Q, ↓zq_R, zq_S, zq_T, zq_U, zq_V, zq_W, zq_X, zq_Y, zq_Z, zq_0, zq_1, zq_2, zq_3, zq_4, zq_5, ↓zq_6, ↓zq_7, ↓zq_8, ↓zq_9, ↓zq_aa, zq_ab, zq_ac, zq_ad, zq_ae, zq_af, zq_ag, ↓zq_ah, ↓zq_ai, ↓zq_aj, zq_ak, ↓zq_al, ↓zq_am, e_b1, e_b2, x_o1, x_o2, r_O0, ip, kk, q3, w1, w2, l1, st, c1]
          · simp [zq_a, zq_b, zq_c, zq_d, zq_e, zq_f, zq_g, zq_h, zq_i, zq_j, zq_k, zq_l, zq_m, zq_n, zq_o, zq_p, zq_q, zq_r, zq_s, zq_t, zq_u, zq_v, zq_w, zq_x, zq_y, zq_z, zq_A, zq_B, zq_C, zq_D, zq_E, zq_F, zq_G, zq_H, zq_I, zq_J, zq_K, zq_L, ↓zq_M, ↓zq_N, ↓zq_O, ↓zq_P, ↓zq_Q, ↓zq_R, zq_S, zq_T, zq_U, zq_V, zq_W, zq_X, zq_Y, zq_Z, zq_0, zq_1, zq_2, zq_3, zq_4, zq_5, ↓zq_6, ↓zq_7, ↓zq_8, ↓zq_9, ↓zq_aa, zq_ab, zq_ac, zq_ad, zq_ae, zq_af, zq_ag, ↓zq_ah, ↓zq_ai, ↓zq_aj, zq_ak, ↓zq_al, ↓zq_am, e_b1, e_b2, x_o1, x_o2, r_O0, ip, kk, q3, w1, w2, l1, st, c1, c2, c3]
      · rw [if_neg c1] at hb
        subst hb
        by_cases c2 : is = 0
        · rw [if_pos c2] at hn
          subst hn
          simp [zq_a, zq_b, zq_c, zq_d, zq_e, zq_f, zq_g, zq_h, zq_i, zq_j, zq_k, zq_l, zq_m, zq_n, zq_o, zq_p, zq_q, zq_r, zq_s, zq_t, zq_u, zq_v, zq_w, zq_x, zq_y, zq_z, zq_A, zq_B, zq_C, zq_D, zq_E, zq_F, zq_G, zq_H, zq_I, zq_J, zq_K, zq_L, ↓zq_M, ↓zq_N, ↓zq_O, ↓zq_P, ↓zq_Q, ↓zq_R, zq_S, zq_T, zq_U, zq_V, zq_W, zq_X, zq_Y, zq_Z, zq_0, zq_1, zq_2, zq_3, zq_4, zq_5, ↓zq_6, ↓zq_7, ↓zq_8, ↓zq_9, ↓zq_aa, zq_ab, zq_ac, zq_ad, zq_ae, zq_af, zq_ag, ↓zq_ah, ↓zq_ai, ↓zq_aj, zq_ak, ↓zq_al, ↓zq_am, e_b1, e_b2, x_o1, x_o2, r_O0, ip, kk, q3, w1, w2, l1, st, c1, c2]
        · rw [if_neg c2] at hn
          subst hn
          have c3 : ¬ ((0 : Int) = is) := fun e => c2 e.symm
          simp [zq_a, zq_b, zq_c, zq_d, zq_e, zq_f, zq_g, zq_h, zq_i, zq_j, zq_k, zq_l, zq_m, zq_n, zq_o, zq_p, zq_q, zq_r, zq_s, zq_t, zq_u, zq_v, zq_w, zq_x, zq_y, zq_z, zq_A, zq_B, zq_C, zq_D, zq_E, zq_F, zq_G, zq_H, zq_I, zq_J, zq_K, zq_L, ↓zq_M, ↓zq_N, ↓zq_O, ↓zq_P, ↓zq_Q, ↓zq_R, zq_S, zq_T, zq_U, zq_V, zq_W, zq_X, zq_Y, zq_Z, zq_0, zq_1, zq_2, zq_3, zq_4, zq_5, ↓zq_6, ↓zq_7, ↓zq_8, ↓zq_9, ↓zq_aa, zq_ab, zq_ac, zq_ad, zq_ae, zq_af, zq_ag, ↓zq_ah, ↓zq_ai, ↓zq_aj, zq_ak, ↓zq_al, ↓zq_am, e_b1, e_b2, x_o1, x_o2, r_O0, ip, kk, q3, w1, w2, l1, st, c1, c2, c3]
    · refine r_Ts (r := -3) hJ ?_
      rw [r_ent (show e_rok 197 [192, p, is] = true from decide_eq_true r_ref)]
      show e_tv E_C (E_V 197) e_t197_0 [192, p, is, 0] M = _
      unfold e_t197_0
      simp [zq_a, zq_b, zq_c, zq_d, zq_e, zq_f, zq_g, zq_h, zq_i, zq_j, zq_k, zq_l, zq_m, zq_n, zq_o, zq_p, zq_q, zq_r, zq_s, zq_t, zq_u, zq_v, zq_w, zq_x, zq_y, zq_z, zq_A, zq_B, zq_C, zq_D, zq_E, zq_F, zq_G, zq_H, zq_I, zq_J, zq_K, zq_L, ↓zq_M, ↓zq_N, ↓zq_O, ↓zq_P, ↓zq_Q, ↓zq_R, zq_S, zq_T, zq_U, zq_V, zq_W, zq_X, zq_Y, zq_Z, zq_0, zq_1, zq_2, zq_3, zq_4, zq_5, ↓zq_6, ↓zq_7, ↓zq_8, ↓zq_9, ↓zq_aa, zq_ab, zq_ac, zq_ad, zq_ae, zq_af, zq_ag, ↓zq_ah, ↓zq_ai, ↓zq_aj, zq_ak, ↓zq_al, ↓zq_am, e_b1, e_b2, x_o1, x_o2, ip, kk, q3]
  · have ip := r_ip0 hW q0
    refine r_Ts (r := -1) hJ ?_
    rw [r_ent (show e_rok 197 [192, p, is] = true from decide_eq_true r_ref)]
    show e_tv E_C (E_V 197) e_t197_0 [192, p, is, 0] M = _
    unfold e_t197_0
    simp [zq_a, zq_b, zq_c, zq_d, zq_e, zq_f, zq_g, zq_h, zq_i, zq_j, zq_k, zq_l, zq_m, zq_n, zq_o, zq_p, zq_q, zq_r, zq_s, zq_t, zq_u, zq_v, zq_w, zq_x, zq_y, zq_z, zq_A, zq_B, zq_C, zq_D, zq_E, zq_F, zq_G, zq_H, zq_I, zq_J, zq_K, zq_L, ↓zq_M, ↓zq_N, ↓zq_O, ↓zq_P, ↓zq_Q, ↓zq_R, zq_S, zq_T, zq_U, zq_V, zq_W, zq_X, zq_Y, zq_Z, zq_0, zq_1, zq_2, zq_3, zq_4, zq_5, ↓zq_6, ↓zq_7, ↓zq_8, ↓zq_9, ↓zq_aa, zq_ab, zq_ac, zq_ad, zq_ae, zq_af, zq_ag, ↓zq_ah, ↓zq_ai, ↓zq_aj, zq_ak, ↓zq_al, ↓zq_am, e_b1, e_b2, x_o1, x_o2, ip]
theorem r_J_box {M : EM} {p j v : Int} (hJ : r_J M) (hp : 0 ≤ p ∧ p < 40) (hk : r_G M (28 * p) = 3) (hj : 4 ≤ j ∧ j ≤ 8) (hv : -2147483648 ≤ v ∧ v ≤ 2147483647) (h4 : j = 4 → 0 ≤ v) : r_J (e_up M 193 (28 * p + j).toNat v) ∧ a_fr (r_wBx ++ r_wq) M (e_up M 193 (28 * p + j).toNat v) ∧ r_G (e_up M 193 (28 * p + j).toNat v) (28 * p) = 3 :=
  ⟨r_J_row hJ (r_upw hv hJ.1) (fun id k h => r_n193 h) (r_W_box (r_J_E hJ).2.1 hp hk hj h4), r_frp (p := p) (lo := 4) (up := 8) ⟨by omega, by omega⟩ ⟨by omega, by omega⟩, (r_G_n (by omega) (by omega)).trans hk⟩
theorem r_box {p w v : Int} {M : EM} (hJ : r_J M) (hv : -2147483648 ≤ v ∧ v ≤ 2147483647) : r_T r_wBx 214 [192, p, w, v] M := by
  have hW := (r_J_E hJ).2.1
  by_cases q0 : 0 ≤ p ∧ p < r_G M 1198
  · have ip := r_ip1 hW q0
    have h40 := r_40 hW q0
    have kk : E_C 170 [192, p] M = some (r_G M (28 * p), M) := r_kind h40
    by_cases q1 : 0 ≤ w ∧ w ≤ 1
    · have i1 := r_in1 (M := M) q1
      obtain ⟨z, hz⟩ : ∃ z : Int, z = (if w = 0 then 500 else 40) := ⟨_, rfl⟩
      by_cases q2 : w ≤ v ∧ v ≤ z
      · have i2 := r_in1 (M := M) q2
        by_cases q3 : r_G M (28 * p) = 3
        · have w1 : e_w (28 * p) = 28 * p := a_w_id (by omega) (by omega)
          have w2 : e_w (28 * p + 4) = 28 * p + 4 := a_w_id (by omega) (by omega)
          have w3 : e_w (28 * p + 4 + w) = 28 * p + 4 + w := a_w_id (by omega) (by omega)
          have w4 : e_w (28 * p + 4 + 2) = 28 * p + 4 + 2 := a_w_id (by omega) (by omega)
          have w5 : e_w (28 * p + 4 + 3) = 28 * p + 4 + 3 := a_w_id (by omega) (by omega)
          have l1 : e_op 60 [193, 28 * p + 4 + w] M = some (r_G M (28 * p + 4 + w)) := r_rd (by omega) (by omega)
          have st := fun M => r_stw (i := 28 * p + 4 + w) (v := v) (M := M) (by omega) (by omega)
          have st2 := fun M => r_stw (i := 28 * p + 4 + 2) (v := 1) (M := M) (by omega) (by omega)
          have st3 := fun M => r_stw (i := 28 * p + 4 + 3) (v := 0) (M := M) (by omega) (by omega)
          have g1 : 28 * p + 4 + w = 28 * p + (4 + w) := by omega
          have g2 : 28 * p + 4 + 2 = 28 * p + 6 := by omega
          have g3 : 28 * p + 4 + 3 = 28 * p + 7 := by omega
          obtain ⟨a1, a2, a3⟩ := r_J_box (j := 4 + w) (v := v) hJ h40 q3 (by omega) hv (fun _ => by omega)
          obtain ⟨b1, b2, b3⟩ := r_J_box (j := 6) (v := 1) a1 h40 a3 (by decide) (by decide) (fun h => absurd h (by decide))
          obtain ⟨c1, c2, c3⟩ := r_J_box (j := 7) (v := 0) b1 h40 b3 (by decide) (by decide) (fun h => absurd h (by decide))
          rw [← g1] at a1 a2 b1 b2 c1 c2
          rw [← g2] at b1 b2 c1 c2
          rw [← g3] at c1 c2
          refine ⟨r_G M (28 * p + 4 + w), _, ?_, c1, a_fr_tr a2 (a_fr_tr b2 c2)⟩
          by_cases e0 : w = 0
          · rw [if_pos e0] at hz
            subst hz
            subst e0
            simp only [Int.add_zero] at w3 l1 st
            rw [r_ent (show e_rok 214 [192, p, 0, v] = true from decide_eq_true r_ref)]
            show e_tv E_C (E_V 214) e_t214_0 [192, p, 0, v, 0, 0] M = _
            unfold e_t214_0
            simp [zq_a, zq_b, zq_c, zq_d, zq_e, zq_f, zq_g, zq_h, zq_i, zq_j, zq_k, zq_l, zq_m, zq_n, zq_o, zq_p, zq_q, zq_r, zq_s, zq_t, zq_u, zq_v, zq_w, zq_x, zq_y, zq_z, zq_A, zq_B, zq_C, zq_D, zq_E, zq_F, zq_G, zq_H, zq_I, zq_J, zq_K, zq_L, ↓zq_M, ↓zq_N, ↓zq_O, ↓zq_P, ↓zq_Q, ↓zq_R, zq_S, zq_T, zq_U, zq_V, zq_W, zq_X, zq_Y, zq_Z, zq_0, zq_1, zq_2, zq_3, zq_4, zq_5, ↓zq_6, ↓zq_7, ↓zq_8, ↓zq_9, ↓zq_aa, zq_ab, zq_ac, zq_ad, zq_ae, zq_af, zq_ag, ↓zq_ah, ↓zq_ai, ↓zq_aj, zq_ak, ↓zq_al, ↓zq_am, e_b1, e_b2, x_o1, x_o2, r_O0, ip, i1, i2, kk, q3, w1, w2, w3, w4, w5, l1, st, st2, st3]
          · rw [if_neg e0] at hz
            subst hz
            rw [r_ent (show e_rok 214 [192, p, w, v] = true from decide_eq_true r_ref)]
            show e_tv E_C (E_V 214) e_t214_0 [192, p, w, v, 0, 0] M = _
            unfold e_t214_0
            simp [zq_a, zq_b, zq_c, zq_d, zq_e, zq_f, zq_g, zq_h, zq_i, zq_j, zq_k, zq_l, zq_m, zq_n, zq_o, zq_p, zq_q, zq_r, zq_s, zq_t, zq_u, zq_v, zq_w, zq_x, zq_y, zq_z, zq_A, zq_B, zq_C, zq_D, zq_E, zq_F, zq_G, zq_H, zq_I, zq_J, zq_K, zq_L, ↓zq_M, ↓zq_N, ↓zq_O, ↓zq_P, ↓zq_Q, ↓zq_R, zq_S, zq_T, zq_U, zq_V, zq_W, zq_X, zq_Y, zq_Z, zq_0, zq_1, zq_2, zq_3, zq_4, zq_5, ↓zq_6, ↓zq_7, ↓zq_8, ↓zq_9, ↓zq_aa, zq_ab, zq_ac, zq_ad, zq_ae, zq_af, zq_ag, ↓zq_ah, ↓zq_ai, ↓zq_aj, zq_ak, ↓zq_al, ↓zq_am, e_b1, e_b2, x_o1, x_o2, r_O0, ip, i1, i2, kk, q3, w1, w2, w3, w4, w5, l1, st, st2, st3, e0]
        · refine r_Ts (r := -3) hJ ?_
          rw [r_ent (show e_rok 214 [192, p, w, v] = true from decide_eq_true r_ref)]
          show e_tv E_C (E_V 214) e_t214_0 [192, p, w, v, 0, 0] M = _
          unfold e_t214_0
          by_cases e0 : w = 0
          · subst e0
            rw [if_pos rfl] at hz
            subst hz
            simp [zq_a, zq_b, zq_c, zq_d, zq_e, zq_f, zq_g, zq_h, zq_i, zq_j, zq_k, zq_l, zq_m, zq_n, zq_o, zq_p, zq_q, zq_r, zq_s, zq_t, zq_u, zq_v, zq_w, zq_x, zq_y, zq_z, zq_A, zq_B, zq_C, zq_D, zq_E, zq_F, zq_G, zq_H, zq_I, zq_J, zq_K, zq_L, ↓zq_M, ↓zq_N, ↓zq_O, ↓zq_P, ↓zq_Q, ↓zq_R, zq_S, zq_T, zq_U, zq_V, zq_W, zq_X, zq_Y, zq_Z, zq_0, zq_1, zq_2, zq_3, zq_4, zq_5, ↓zq_6, ↓zq_7, ↓zq_8, ↓zq_9, ↓zq_aa, zq_ab, zq_ac, zq_ad, zq_ae, zq_af, zq_ag, ↓zq_ah, ↓zq_ai, ↓zq_aj, zq_ak, ↓zq_al, ↓zq_am, e_b1, e_b2, x_o1, x_o2, ip, i1, i2, kk, q3]
          · rw [if_neg e0] at hz
            subst hz
            simp [zq_a, zq_b, zq_c, zq_d, zq_e, zq_f, zq_g, zq_h, zq_i, zq_j, zq_k, zq_l, zq_m, zq_n, zq_o, zq_p, zq_q, zq_r, zq_s, zq_t, zq_u, zq_v, zq_w, zq_x, zq_y, zq_z, zq_A, zq_B, zq_C, zq_D, zq_E, zq_F, zq_G, zq_H, zq_I, zq_J, zq_K, zq_L, ↓zq_M, ↓zq_N, ↓zq_O, ↓zq_P, ↓zq_Q, ↓zq_R, zq_S, zq_T, zq_U, zq_V, zq_W, zq_X, zq_Y, zq_Z, zq_0, zq_1, zq_2, zq_3, zq_4, zq_5, ↓zq_6, ↓zq_7, ↓zq_8, ↓zq_9, ↓zq_aa, zq_ab, zq_ac, zq_ad, zq_ae, zq_af, zq_ag, ↓zq_ah, ↓zq_ai, ↓zq_aj, zq_ak, ↓zq_al, ↓zq_am, e_b1, e_b2, x_o1, x_o2, ip, i1, i2, kk, q3, e0]
      · have i2 := r_in0 (M := M) q2
        refine r_Ts (r := -1) hJ ?_
        rw [r_ent (show e_rok 214 [192, p, w, v] = true from decide_eq_true r_ref)]
        show e_tv E_C (E_V 214) e_t214_0 [192, p, w, v, 0, 0] M = _
        unfold e_t214_0
        by_cases e0 : w = 0
        · subst e0
          rw [if_pos rfl] at hz
          subst hz
          simp [zq_a, zq_b, zq_c, zq_d, zq_e, zq_f, zq_g, zq_h, zq_i, zq_j, zq_k, zq_l, zq_m, zq_n, zq_o, zq_p, zq_q, zq_r, zq_s, zq_t, zq_u, zq_v, zq_w, zq_x, zq_y, zq_z, zq_A, zq_B, zq_C, zq_D, zq_E, zq_F, zq_G, zq_H, zq_I, zq_J, zq_K, zq_L, ↓zq_M, ↓zq_N, ↓zq_O, ↓zq_P, ↓zq_Q, ↓zq_R, zq_S, zq_T, zq_U, zq_V, zq_W, zq_X, zq_Y, zq_Z, zq_0, zq_1, zq_2, zq_3, zq_4, zq_5, ↓zq_6, ↓zq_7, ↓zq_8, ↓zq_9, ↓zq_aa, zq_ab, zq_ac, zq_ad, zq_ae, zq_af, zq_ag, ↓zq_ah, ↓zq_ai, ↓zq_aj, zq_ak, ↓zq_al, ↓zq_am, e_b1, e_b2, x_o1, x_o2, ip, i1, i2]
        · rw [if_neg e0] at hz
          subst hz
          simp [zq_a, zq_b, zq_c, zq_d, zq_e, zq_f, zq_g, zq_h, zq_i, zq_j, zq_k, zq_l, zq_m, zq_n, zq_o, zq_p, zq_q, zq_r, zq_s, zq_t, zq_u, zq_v, zq_w, zq_x, zq_y, zq_z, zq_A, zq_B, zq_C, zq_D, zq_E, zq_F, zq_G, zq_H, zq_I, zq_J, zq_K, zq_L, ↓zq_M, ↓zq_N, ↓zq_O, ↓zq_P, ↓zq_Q, ↓zq_R, zq_S, zq_T, zq_U, zq_V, zq_W, zq_X, zq_Y, zq_Z, zq_0, zq_1, zq_2, zq_3, zq_4, zq_5, ↓zq_6, ↓zq_7, ↓zq_8, ↓zq_9, ↓zq_aa, zq_ab, zq_ac, zq_ad, zq_ae, zq_af, zq_ag, ↓zq_ah, ↓zq_ai, ↓zq_aj, zq_ak, ↓zq_al, ↓zq_am, e_b1, e_b2, x_o1, x_o2, ip, i1, i2, e0]
    · have i1 := r_in0 (M := M) q1
      refine r_Ts (r := -1) hJ ?_
      rw [r_ent (show e_rok 214 [192, p, w, v] = true from decide_eq_true r_ref)]
      show e_tv E_C (E_V 214) e_t214_0 [192, p, w, v, 0, 0] M = _
      unfold e_t214_0
      simp [zq_a, zq_b, zq_c, zq_d, zq_e, zq_f, zq_g, zq_h, zq_i, zq_j, zq_k, zq_l, zq_m, zq_n, zq_o, zq_p, zq_q, zq_r, zq_s, zq_t, zq_u, zq_v, zq_w, zq_x, zq_y, zq_z, zq_A, zq_B, zq_C, zq_D, zq_E, zq_F, zq_G, zq_H, zq_I, zq_J, zq_K, zq_L, ↓zq_M, ↓zq_N, ↓zq_O, ↓zq_P, ↓zq_Q, ↓zq_R, zq_S, zq_T, zq_U, zq_V, zq_W, zq_X, zq_Y, zq_Z, zq_0, zq_1, zq_2, zq_3, zq_4, zq_5, ↓zq_6, ↓zq_7, ↓zq_8, ↓zq_9, ↓zq_aa, zq_ab, zq_ac, zq_ad, zq_ae, zq_af, zq_ag, ↓zq_ah, ↓zq_ai, ↓zq_aj, zq_ak, ↓zq_al, ↓zq_am, e_b1, e_b2, x_o1, x_o2, ip, i1]
  · have ip := r_ip0 hW q0
    refine r_Ts (r := -1) hJ ?_
    rw [r_ent (show e_rok 214 [192, p, w, v] = true from decide_eq_true r_ref)]
    show e_tv E_C (E_V 214) e_t214_0 [192, p, w, v, 0, 0] M = _
    unfold e_t214_0
    simp [zq_a, zq_b, zq_c, zq_d, zq_e, zq_f, zq_g, zq_h, zq_i, zq_j, zq_k, zq_l, zq_m, zq_n, zq_o, zq_p, zq_q, zq_r, zq_s, zq_t, zq_u, zq_v, zq_w, zq_x, zq_y, zq_z, zq_A, zq_B, zq_C, zq_D, zq_E, zq_F, zq_G, zq_H, zq_I, zq_J, zq_K, zq_L, ↓zq_M, ↓zq_N, ↓zq_O, ↓zq_P, ↓zq_Q, ↓zq_R, zq_S, zq_T, zq_U, zq_V, zq_W, zq_X, zq_Y, zq_Z, zq_0, zq_1, zq_2, zq_3, zq_4, zq_5, ↓zq_6, ↓zq_7, ↓zq_8, ↓zq_9, ↓zq_aa, zq_ab, zq_ac, zq_ad, zq_ae, zq_af, zq_ag, ↓zq_ah, ↓zq_ai, ↓zq_aj, zq_ak, ↓zq_al, ↓zq_am, e_b1, e_b2, x_o1, x_o2, ip]
