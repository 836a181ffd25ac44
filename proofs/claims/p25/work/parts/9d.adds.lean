/-! CELLS and DIODES of a PART, gathered by the reference -/
theorem r_202 {M : EM} {k : Nat} {v : Int} : (e_up M 202 k v) 192 13 = M 192 13 := c_up_n (fun hc => absurd hc.1 (by decide))
theorem r_203 {M : EM} {k : Nat} {v : Int} : (e_up M 203 k v) 192 14 = M 192 14 := c_up_n (fun hc => absurd hc.1 (by decide))
theorem r_st202 {i v : Int} {M : EM} (h0 : 0 ≤ i) (hi : i ≤ 47) : e_st 100 [202, i, v] M = some (e_up M 202 i.toNat v) := r_stA (a := 202) (n := 47) (by decide) (by decide) (by decide +kernel) h0 hi
theorem r_st203 {i v : Int} {M : EM} (h0 : 0 ≤ i) (hi : i ≤ 47) : e_st 100 [203, i, v] M = some (e_up M 203 i.toNat v) := r_stA (a := 203) (n := 47) (by decide) (by decide) (by decide +kernel) h0 hi
theorem r_ld202 {i : Int} {M : EM} (h0 : 0 ≤ i) (hi : i ≤ 47) : e_op 60 [202, i] M = some (M 202 i.toNat) := r_rdA (a := 202) (n := 47) (by decide) (by decide) (by decide +kernel) h0 hi
theorem r_ld203 {i : Int} {M : EM} (h0 : 0 ≤ i) (hi : i ≤ 47) : e_op 60 [203, i] M = some (M 203 i.toNat) := r_rdA (a := 203) (n := 47) (by decide) (by decide) (by decide +kernel) h0 hi
/-- one CELL more -/
def r_c1 (M : EM) (v : Int) : EM := e_up (e_up M 202 (M 192 13).toNat v) 192 13 (M 192 13 + 1)
def r_d1 (M : EM) (v : Int) : EM := e_up (e_up M 203 (M 192 14).toNat v) 192 14 (M 192 14 + 1)
theorem r_c1_ok {M : EM} {v : Int} (hJ : r_J M) (hc : 0 ≤ M 192 13 ∧ M 192 13 ≤ 47) (hv : -2147483648 ≤ v ∧ v ≤ 2147483647) : r_J (r_c1 M v) ∧ a_fr r_wq M (r_c1 M v) ∧ (r_c1 M v) 192 13 = M 192 13 + 1 ∧ (r_c1 M v) 192 14 = M 192 14 := by
  obtain ⟨u1, u2⟩ := r_qarr (a := 202) (n := 47) (k := (M 192 13).toNat) (by decide) (by omega) hv hJ
  obtain ⟨v1, v2⟩ := r_qfld (k := 13) (v := M 192 13 + 1) (by decide) (by decide) ⟨by omega, by omega⟩ u1
  exact ⟨v1, a_fr_tr u2 v2, c_up_s, (c_up_n (fun hc => absurd hc.2 (by decide))).trans (c_up_n (fun hc => absurd hc.1 (by decide)))⟩
theorem r_d1_ok {M : EM} {v : Int} (hJ : r_J M) (hc : 0 ≤ M 192 14 ∧ M 192 14 ≤ 47) (hv : -2147483648 ≤ v ∧ v ≤ 2147483647) : r_J (r_d1 M v) ∧ a_fr r_wq M (r_d1 M v) ∧ (r_d1 M v) 192 14 = M 192 14 + 1 ∧ (r_d1 M v) 192 13 = M 192 13 := by
  obtain ⟨u1, u2⟩ := r_qarr (a := 203) (n := 47) (k := (M 192 14).toNat) (by decide) (by omega) hv hJ
  obtain ⟨v1, v2⟩ := r_qfld (k := 14) (v := M 192 14 + 1) (by decide) (by decide) ⟨by omega, by omega⟩ u1
  exact ⟨v1, a_fr_tr u2 v2, c_up_s, (c_up_n (fun hc => absurd hc.2 (by decide))).trans (c_up_n (fun hc => absurd hc.1 (by decide)))⟩
/-- at most so many CELLS and DIODES -/
def r_cd (a b : Int) (M : EM) : Prop := (0 ≤ M 192 13 ∧ M 192 13 ≤ a) ∧ 0 ≤ M 192 14 ∧ M 192 14 ≤ b
def r_AD (g : Int → Int) (a b : Int) (M : EM) (o : EO) : Prop := ∃ M', o = some (0, M') ∧ r_J M' ∧ a_fr r_wq M M' ∧ r_cd a b M' 
theorem r_ad_82_176 {g : Int → Int} {p a b : Int} (hr : r_rw g 40 p) (hb : 0 ≤ b ∧ b ≤ 40) : ∀ (m : Nat) (x2 : Int) (M : EM), r_J M → r_G M = g → r_cd a (b + x2) M → (8 - x2).toNat ≤ m → 0 ≤ x2 → x2 ≤ 8 → r_AD g a (b + 8) M (E_V 176 82 [192, p, x2] M) := by
  obtain ⟨a1, a2, a3, a4, a5, a6, a7, a8⟩ := hr
  have w1 : e_w (28 * p) = 28 * p := a_w_id (by omega) (by omega)
  have w2 : e_w (28 * p + 19) = 28 * p + 19 := a_w_id (by omega) (by omega)
  have w3 : e_w (28 * p + 20) = 28 * p + 20 := a_w_id (by omega) (by omega)
  have hend : ∀ x2 M, r_J M → r_G M = g → r_cd a (b + x2) M → ¬ (x2 < g (28 * p + 19)) → x2 ≤ 8 → r_AD g a (b + 8) M (E_V 176 82 [192, p, x2] M) := by
    intro x2 M hJ hg hc q h8
    have l1 : e_op 60 [193, 28 * p + 19] M = some (g (28 * p + 19)) := (r_rd (by omega) (by omega)).trans (congrArg some (congrFun hg _))
    refine ⟨M, ?_, hJ, a_fr_rf, hc.1, hc.2.1, by have := hc.2.2; omega⟩
    rw [E_V_eq]
    show e_tv E_C (E_V 176) e_t176_82 [192, p, x2] M = _
    unfold e_t176_82
    simp [zq_a, zq_b, zq_c, zq_d, zq_e, zq_f, zq_g, zq_h, zq_i, zq_j, zq_k, zq_l, zq_m, zq_n, zq_o, zq_p, zq_q, zq_r, zq_s, zq_t, zq_u, zq_v, zq_w, zq_x, zq_y, zq_z, zq_A, zq_B, zq_C, zq_D, zq_E, zq_F, zq_G, zq_H, zq_I, zq_J, zq_K, zq_L, ↓zq_M, ↓zq_N, ↓zq_O, ↓zq_P, ↓zq_Q, ↓zq_R, zq_S, zq_T, zq_U, zq_V, zq_W, zq_X, zq_Y, zq_Z, zq_0, zq_1, zq_2, zq_3, zq_4, zq_5, ↓zq_6, ↓zq_7, ↓zq_8, ↓zq_9, ↓zq_aa, zq_ab, zq_ac, zq_ad, zq_ae, zq_af, zq_ag, ↓zq_ah, ↓zq_ai, ↓zq_aj, zq_ak, ↓zq_al, ↓zq_am, e_b1, e_b2, x_o1, x_o2, r_O0, w1, w2, l1, q]
  intro m
  induction m with
  | zero => intro x2 M hJ hg hc hm h0 h8; exact hend x2 M hJ hg hc (by omega) h8
  | succ m ih =>
    intro x2 M hJ hg hc hm h0 h8
    rcases x_lt x2 (g (28 * p + 19)) with ⟨q, q_n⟩ | ⟨q, q_n⟩
    · have l1 : e_op 60 [193, 28 * p + 19] M = some (g (28 * p + 19)) := (r_rd (by omega) (by omega)).trans (congrArg some (congrFun hg _))
      have l2 : e_op 60 [193, 28 * p + 20 + x2] M = some (g (28 * p + 20 + x2)) := (r_rd (by omega) (by omega)).trans (congrArg some (congrFun hg _))
      have w4 : e_w (28 * p + 20 + x2) = 28 * p + 20 + x2 := a_w_id (by omega) (by omega)
      have w5 : e_w (x2 + 1) = x2 + 1 := a_w_id (by omega) (by omega)
      have w6 : e_w (8 * p) = 8 * p := a_w_id (by omega) (by omega)
      have w7 : e_w (8 * p + x2) = 8 * p + x2 := a_w_id (by omega) (by omega)
      have hc' := hc
      obtain ⟨c1, c2, c3⟩ := hc'
      have w8 : e_w (M 192 14 + 1) = M 192 14 + 1 := a_w_id (by omega) (by omega)
      by_cases c : g (28 * p + 20 + x2) = 0
      · obtain ⟨M', k, t⟩ := ih (x2 + 1) M hJ hg ⟨c1, c2, by omega⟩ (by omega) (by omega) (by omega)
        have k143 : E_V 176 143 [192, p, x2] M = some (0, M') := by
          rw [E_V_eq]
          show e_tv E_C (E_V 176) e_t176_143 [192, p, x2] M = _
          unfold e_t176_143
          simp [zq_a, zq_b, zq_c, zq_d, zq_e, zq_f, zq_g, zq_h, zq_i, zq_j, zq_k, zq_l, zq_m, zq_n, zq_o, zq_p, zq_q, zq_r, zq_s, zq_t, zq_u, zq_v, zq_w, zq_x, zq_y, zq_z, zq_A, zq_B, zq_C, zq_D, zq_E, zq_F, zq_G, zq_H, zq_I, zq_J, zq_K, zq_L, ↓zq_M, ↓zq_N, ↓zq_O, ↓zq_P, ↓zq_Q, ↓zq_R, zq_S, zq_T, zq_U, zq_V, zq_W, zq_X, zq_Y, zq_Z, zq_0, zq_1, zq_2, zq_3, zq_4, zq_5, ↓zq_6, ↓zq_7, ↓zq_8, ↓zq_9, ↓zq_aa, zq_ab, zq_ac, zq_ad, zq_ae, zq_af, zq_ag, ↓zq_ah, ↓zq_ai, ↓zq_aj, zq_ak, ↓zq_al, ↓zq_am, e_b1, e_b2, x_o1, x_o2, w5, k]
        refine ⟨M', ?_, t⟩
        rw [E_V_eq]
        show e_tv E_C (E_V 176) e_t176_82 [192, p, x2] M = _
        unfold e_t176_82
        simp [zq_a, zq_b, zq_c, zq_d, zq_e, zq_f, zq_g, zq_h, zq_i, zq_j, zq_k, zq_l, zq_m, zq_n, zq_o, zq_p, zq_q, zq_r, zq_s, zq_t, zq_u, zq_v, zq_w, zq_x, zq_y, zq_z, zq_A, zq_B, zq_C, zq_D, zq_E, zq_F, zq_G, zq_H, zq_I, zq_J, zq_K, zq_L, ↓zq_M, ↓zq_N, ↓zq_O, ↓zq_P, ↓zq_Q, ↓zq_R, zq_S, zq_T, zq_U, zq_V, zq_W, zq_X, zq_Y, zq_Z, zq_0, zq_1, zq_2, zq_3, zq_4, zq_5, ↓zq_6, ↓zq_7, ↓zq_8, ↓zq_9, ↓zq_aa, zq_ab, zq_ac, zq_ad, zq_ae, zq_af, zq_ag, ↓zq_ah, ↓zq_ai, ↓zq_aj, zq_ak, ↓zq_al, ↓zq_am, e_b1, e_b2, x_o1, x_o2, r_O0, w1, w2, w3, w4, l1, l2, q, q_n, c, k143]
      · obtain ⟨u1, u2, u3, u4⟩ := r_d1_ok (v := 8 * p + x2) hJ ⟨c2, by omega⟩ ⟨by omega, by omega⟩
        obtain ⟨M', k, t1, t2, t3⟩ := ih (x2 + 1) (r_d1 M (8 * p + x2)) u1 ((r_q_G u2).trans hg) ⟨by rw [u4]; exact c1, by rw [u3]; omega, by rw [u3]; omega⟩ (by omega) (by omega) (by omega)
        have k143 : E_V 176 143 [192, p, x2] (r_d1 M (8 * p + x2)) = some (0, M') := by
          rw [E_V_eq]
          show e_tv E_C (E_V 176) e_t176_143 [192, p, x2] (r_d1 M (8 * p + x2)) = _
          unfold e_t176_143
          simp [zq_a, zq_b, zq_c, zq_d, zq_e, zq_f, zq_g, zq_h, zq_i, zq_j, zq_k, zq_l, zq_m, zq_n, zq_o, zq_p, zq_q, zq_r, zq_s, zq_t, zq_u, zq_v, zq_w, zq_x, zq_y, zq_z, zq_A, zq_B, zq_C, zq_D, zq_E, zq_F, zq_G, zq_H, zq_I, zq_J, zq_K, zq_L, ↓zq_M, ↓zq_N, ↓zq_O, ↓zq_P, ↓zq_Q, ↓zq_R, zq_S, zq_T, zq_U, zq_V, zq_W, zq_X, zq_Y, zq_Z, zq_0, zq_1, zq_2, zq_3, zq_4, zq_5, ↓zq_6, ↓zq_7, ↓zq_8, ↓zq_9, ↓zq_aa, zq_ab, zq_ac, zq_ad, zq_ae, zq_af, zq_ag, ↓zq_ah, ↓zq_ai, ↓zq_aj, zq_ak, ↓zq_al, ↓zq_am, e_b1, e_b2, x_o1, x_o2, w5, k]
        have st := r_st203 (i := M 192 14) (v := 8 * p + x2) (M := M) c2 (by omega)
        refine ⟨M', ?_, t1, a_fr_tr u2 t2, t3⟩
        unfold r_d1 at k143
        rw [E_V_eq]
        show e_tv E_C (E_V 176) e_t176_82 [192, p, x2] M = _
        unfold e_t176_82
        simp [zq_a, zq_b, zq_c, zq_d, zq_e, zq_f, zq_g, zq_h, zq_i, zq_j, zq_k, zq_l, zq_m, zq_n, zq_o, zq_p, zq_q, zq_r, zq_s, zq_t, zq_u, zq_v, zq_w, zq_x, zq_y, zq_z, zq_A, zq_B, zq_C, zq_D, zq_E, zq_F, zq_G, zq_H, zq_I, zq_J, zq_K, zq_L, ↓zq_M, ↓zq_N, ↓zq_O, ↓zq_P, ↓zq_Q, ↓zq_R, zq_S, zq_T, zq_U, zq_V, zq_W, zq_X, zq_Y, zq_Z, zq_0, zq_1, zq_2, zq_3, zq_4, zq_5, ↓zq_6, ↓zq_7, ↓zq_8, ↓zq_9, ↓zq_aa, zq_ab, zq_ac, zq_ad, zq_ae, zq_af, zq_ag, ↓zq_ah, ↓zq_ai, ↓zq_aj, zq_ak, ↓zq_al, ↓zq_am, e_b1, e_b2, x_o1, x_o2, r_O0, r_O12, r_F14, r_P14, r_203, w1, w2, w3, w4, w6, w7, w8, l1, l2, q, q_n, c, st, k143]
    · exact hend x2 M hJ hg hc q h8
theorem r_ad_40_176 {g : Int → Int} {p a b : Int} (hr : r_rw g 40 p) (ha : 0 ≤ a ∧ a ≤ 40) (hb : 0 ≤ b ∧ b ≤ 40) : ∀ (m : Nat) (x2 : Int) (M : EM), r_J M → r_G M = g → r_cd (a + x2) b M → (8 - x2).toNat ≤ m → 0 ≤ x2 → x2 ≤ 8 → r_AD g (a + 8) (b + 8) M (E_V 176 40 [192, p, x2] M) := by
  have hr' := hr
  obtain ⟨a1, a2, a3, a4, a5, a6, a7, a8⟩ := hr'
  have hend : ∀ x2 M, r_J M → r_G M = g → r_cd (a + x2) b M → ¬ (x2 < g (28 * p + 2)) → x2 ≤ 8 → r_AD g (a + 8) (b + 8) M (E_V 176 40 [192, p, x2] M) := by
    intro x2 M hJ hg hc q h8
    have km : E_C 171 [192, p] M = some (g (28 * p + 2), M) := by rw [← hg]; exact r_many ⟨a1, a2⟩
    obtain ⟨M', k, t⟩ := r_ad_82_176 (a := a + 8) (b := b) hr hb 8 0 M hJ hg ⟨⟨hc.1.1, by have := hc.1.2; omega⟩, hc.2.1, by have := hc.2.2; omega⟩ (by decide) (by decide) (by decide)
    refine ⟨M', ?_, t⟩
    rw [E_V_eq]
    show e_tv E_C (E_V 176) e_t176_40 [192, p, x2] M = _
    unfold e_t176_40
    simp [zq_a, zq_b, zq_c, zq_d, zq_e, zq_f, zq_g, zq_h, zq_i, zq_j, zq_k, zq_l, zq_m, zq_n, zq_o, zq_p, zq_q, zq_r, zq_s, zq_t, zq_u, zq_v, zq_w, zq_x, zq_y, zq_z, zq_A, zq_B, zq_C, zq_D, zq_E, zq_F, zq_G, zq_H, zq_I, zq_J, zq_K, zq_L, ↓zq_M, ↓zq_N, ↓zq_O, ↓zq_P, ↓zq_Q, ↓zq_R, zq_S, zq_T, zq_U, zq_V, zq_W, zq_X, zq_Y, zq_Z, zq_0, zq_1, zq_2, zq_3, zq_4, zq_5, ↓zq_6, ↓zq_7, ↓zq_8, ↓zq_9, ↓zq_aa, zq_ab, zq_ac, zq_ad, zq_ae, zq_af, zq_ag, ↓zq_ah, ↓zq_ai, ↓zq_aj, zq_ak, ↓zq_al, ↓zq_am, e_b1, e_b2, x_o1, x_o2, km, q, k]
  intro m
  induction m with
  | zero => intro x2 M hJ hg hc hm h0 h8; exact hend x2 M hJ hg hc (by omega) h8
  | succ m ih =>
    intro x2 M hJ hg hc hm h0 h8
    rcases x_lt x2 (g (28 * p + 2)) with ⟨q, q_n⟩ | ⟨q, q_n⟩
    · have km : E_C 171 [192, p] M = some (g (28 * p + 2), M) := by rw [← hg]; exact r_many ⟨a1, a2⟩
      have ko : E_C 172 [192, p, x2] M = some (g (28 * p + 3 + x2), M) := by rw [← hg]; exact r_of ⟨a1, a2⟩ ⟨h0, by omega⟩
      have hv : -2147483648 ≤ g (28 * p + 3 + x2) ∧ g (28 * p + 3 + x2) ≤ 2147483647 := by rw [← hg]; exact r_gr hJ.1 _
      have w5 : e_w (x2 + 1) = x2 + 1 := a_w_id (by omega) (by omega)
      have hc' := hc
      obtain ⟨⟨c1, c2⟩, c3⟩ := hc'
      have w8 : e_w (M 192 13 + 1) = M 192 13 + 1 := a_w_id (by omega) (by omega)
      obtain ⟨u1, u2, u3, u4⟩ := r_c1_ok (v := g (28 * p + 3 + x2)) hJ ⟨c1, by omega⟩ hv
      obtain ⟨M', k, t1, t2, t3⟩ := ih (x2 + 1) (r_c1 M (g (28 * p + 3 + x2))) u1 ((r_q_G u2).trans hg) ⟨⟨by rw [u3]; omega, by rw [u3]; omega⟩, by rw [u4]; exact c3⟩ (by omega) (by omega) (by omega)
      have st := r_st202 (i := M 192 13) (v := g (28 * p + 3 + x2)) (M := M) c1 (by omega)
      refine ⟨M', ?_, t1, a_fr_tr u2 t2, t3⟩
      unfold r_c1 at k
      rw [E_V_eq]
      show e_tv E_C (E_V 176) e_t176_40 [192, p, x2] M = _
      unfold e_t176_40
      simp [zq_a, zq_b, zq_c, zq_d, zq_e, zq_f, zq_g, zq_h, zq_i, zq_j, zq_k, zq_l, zq_m, zq_n, zq_o, zq_p, zq_q, zq_r, zq_s, zq_t, zq_u, zq_v, zq_w, zq_x, zq_y, zq_z, zq_A, zq_B, zq_C, zq_D, zq_E, zq_F, zq_G, zq_H, zq_I, zq_J, zq_K, zq_L, ↓zq_M, ↓zq_N, ↓zq_O, ↓zq_P, ↓zq_Q, ↓zq_R, zq_S, zq_T, zq_U, zq_V, zq_W, zq_X, zq_Y, zq_Z, zq_0, zq_1, zq_2, zq_3, zq_4, zq_5, ↓zq_6, ↓zq_7, ↓zq_8, ↓zq_9, ↓zq_aa, zq_ab, zq_ac, zq_ad, zq_ae, zq_af, zq_ag, ↓zq_ah, ↓zq_ai, ↓zq_aj, zq_ak, ↓zq_al, ↓zq_am, e_b1, e_b2, x_o1, x_o2, r_O11, r_F13, r_P13, r_202, km, ko, w5, w8, q, q_n, st, k]
    · exact hend x2 M hJ hg hc q h8
theorem r_ad_lo_176 {g : Int → Int} {p a b : Int} {M : EM} (hr : r_cl g 40 p ∨ r_rw g 40 p) (ha : 0 ≤ a ∧ a ≤ 40) (hb : 0 ≤ b ∧ b ≤ 40) (hJ : r_J M) (hg : r_G M = g) (hc : r_cd a b M) : r_AD g (a + 8) (b + 8) M (E_C 176 [192, p] M) := by
  have h40 := r_lo_p (by decide) hr
  have kk : E_C 170 [192, p] M = some (g (28 * p), M) := by rw [← hg]; exact r_kind h40
  rcases hr with hr | hr
  · have a3 := hr.2.2.1
    have hc' := hc
    obtain ⟨⟨c1, c2⟩, c3⟩ := hc'
    obtain ⟨u1, u2, u3, u4⟩ := r_c1_ok (v := p) hJ ⟨c1, by omega⟩ ⟨by omega, by omega⟩
    have w8 : e_w (M 192 13 + 1) = M 192 13 + 1 := a_w_id (by omega) (by omega)
    have st := r_st202 (i := M 192 13) (v := p) (M := M) c1 (by omega)
    refine ⟨r_c1 M p, ?_, u1, u2, ⟨by rw [u3]; omega, by rw [u3]; omega⟩, by rw [u4]; omega, by rw [u4]; omega⟩
    unfold r_c1
    rw [r_ent (show e_rok 176 [192, p] = true from decide_eq_true r_ref)]
    show e_tv E_C (E_V 176) e_t176_0 [192, p, 0] M = _
    unfold e_t176_0
    simp [zq_a, zq_b, zq_c, zq_d, zq_e, zq_f, zq_g, zq_h, zq_i, zq_j, zq_k, zq_l, zq_m, zq_n, zq_o, zq_p, zq_q, zq_r, zq_s, zq_t, zq_u, zq_v, zq_w, zq_x, zq_y, zq_z, zq_A, zq_B, zq_C, zq_D, zq_E, zq_F, zq_G, zq_H, zq_I, zq_J, zq_K, zq_L, ↓zq_M, ↓zq_N, ↓zq_O, ↓zq_P, ↓zq_Q, ↓zq_R, zq_S, zq_T, zq_U, zq_V, zq_W, zq_X, zq_Y, zq_Z, zq_0, zq_1, zq_2, zq_3, zq_4, zq_5, ↓zq_6, ↓zq_7, ↓zq_8, ↓zq_9, ↓zq_aa, zq_ab, zq_ac, zq_ad, zq_ae, zq_af, zq_ag, ↓zq_ah, ↓zq_ai, ↓zq_aj, zq_ak, ↓zq_al, ↓zq_am, e_b1, e_b2, x_o1, x_o2, r_O11, r_F13, r_P13, r_202, kk, a3, w8, st]
  · have a3 := hr.2.2.1
    obtain ⟨M', k, t⟩ := r_ad_40_176 (a := a) (b := b) hr ha hb 8 0 M hJ hg (by rw [Int.add_zero]; exact hc) (by decide) (by decide) (by decide)
    refine ⟨M', ?_, t⟩
    rw [r_ent (show e_rok 176 [192, p] = true from decide_eq_true r_ref)]
    show e_tv E_C (E_V 176) e_t176_0 [192, p, 0] M = _
    unfold e_t176_0
    simp [zq_a, zq_b, zq_c, zq_d, zq_e, zq_f, zq_g, zq_h, zq_i, zq_j, zq_k, zq_l, zq_m, zq_n, zq_o, zq_p, zq_q, zq_r, zq_s, zq_t, zq_u, zq_v, zq_w, zq_x, zq_y, zq_z, zq_A, zq_B, zq_C, zq_D, zq_E, zq_F, zq_G, zq_H, zq_I, zq_J, zq_K, zq_L, ↓zq_M, ↓zq_N, ↓zq_O, ↓zq_P, ↓zq_Q, ↓zq_R, zq_S, zq_T, zq_U, zq_V, zq_W, zq_X, zq_Y, zq_Z, zq_0, zq_1, zq_2, zq_3, zq_4, zq_5, ↓zq_6, ↓zq_7, ↓zq_8, ↓zq_9, ↓zq_aa, zq_ab, zq_ac, zq_ad, zq_ae, zq_af, zq_ag, ↓zq_ah, ↓zq_ai, ↓zq_aj, zq_ak, ↓zq_al, ↓zq_am, e_b1, e_b2, x_o1, x_o2, kk, a3, k]
theorem r_ad_82_304 {g : Int → Int} {p a b : Int} (hr : r_rw g 40 p) (hb : 0 ≤ b ∧ b ≤ 40) : ∀ (m : Nat) (x2 : Int) (M : EM), r_J M → r_G M = g → r_cd a (b + x2) M → (8 - x2).toNat ≤ m → 0 ≤ x2 → x2 ≤ 8 → r_AD g a (b + 8) M (E_V 304 82 [192, p, x2] M) := by
  obtain ⟨a1, a2, a3, a4, a5, a6, a7, a8⟩ := hr
  have w1 : e_w (28 * p) = 28 * p := a_w_id (by omega) (by omega)
  have w2 : e_w (28 * p + 19) = 28 * p + 19 := a_w_id (by omega) (by omega)
  have w3 : e_w (28 * p + 20) = 28 * p + 20 := a_w_id (by omega) (by omega)
  have hend : ∀ x2 M, r_J M → r_G M = g → r_cd a (b + x2) M → ¬ (x2 < g (28 * p + 19)) → x2 ≤ 8 → r_AD g a (b + 8) M (E_V 304 82 [192, p, x2] M) := by
    intro x2 M hJ hg hc q h8
    have l1 : e_op 60 [193, 28 * p + 19] M = some (g (28 * p + 19)) := (r_rd (by omega) (by omega)).trans (congrArg some (congrFun hg _))
    refine ⟨M, ?_, hJ, a_fr_rf, hc.1, hc.2.1, by have := hc.2.2; omega⟩
    rw [E_V_eq]
    show e_tv E_C (E_V 304) e_t304_82 [192, p, x2] M = _
    unfold e_t304_82
    simp [zq_a, zq_b, zq_c, zq_d, zq_e, zq_f, zq_g, zq_h, zq_i, zq_j, zq_k, zq_l, zq_m, zq_n, zq_o, zq_p, zq_q, zq_r, zq_s, zq_t, zq_u, zq_v, zq_w, zq_x, zq_y, zq_z, zq_A, zq_B, zq_C, zq_D, zq_E, zq_F, zq_G, zq_H, zq_I, zq_J, zq_K, zq_L, ↓zq_M, ↓zq_N, ↓zq_O, ↓zq_P, ↓zq_Q, ↓zq_R, zq_S, zq_T, zq_U, zq_V, zq_W, zq_X, zq_Y, zq_Z, zq_0, zq_1, zq_2, zq_3, zq_4, zq_5, ↓zq_6, ↓zq_7, ↓zq_8, ↓zq_9, ↓zq_aa, zq_ab, zq_ac, zq_ad, zq_ae, zq_af, zq_ag, ↓zq_ah, ↓zq_ai, ↓zq_aj, zq_ak, ↓zq_al, ↓zq_am, e_b1, e_b2, x_o1, x_o2, r_O0, w1, w2, l1, q]
  intro m
  induction m with
  | zero => intro x2 M hJ hg hc hm h0 h8; exact hend x2 M hJ hg hc (by omega) h8
  | succ m ih =>
    intro x2 M hJ hg hc hm h0 h8
    rcases x_lt x2 (g (28 * p + 19)) with ⟨q, q_n⟩ | ⟨q, q_n⟩
    · have l1 : e_op 60 [193, 28 * p + 19] M = some (g (28 * p + 19)) := (r_rd (by omega) (by omega)).trans (congrArg some (congrFun hg _))
      have l2 : e_op 60 [193, 28 * p + 20 + x2] M = some (g (28 * p + 20 + x2)) := (r_rd (by omega) (by omega)).trans (congrArg some (congrFun hg _))
      have w4 : e_w (28 * p + 20 + x2) = 28 * p + 20 + x2 := a_w_id (by omega) (by omega)
      have w5 : e_w (x2 + 1) = x2 + 1 := a_w_id (by omega) (by omega)
      have w6 : e_w (8 * p) = 8 * p := a_w_id (by omega) (by omega)
      have w7 : e_w (8 * p + x2) = 8 * p + x2 := a_w_id (by omega) (by omega)
      have hc' := hc
      obtain ⟨c1, c2, c3⟩ := hc'
      have w8 : e_w (M 192 14 + 1) = M 192 14 + 1 := a_w_id (by omega) (by omega)
      by_cases c : g (28 * p + 20 + x2) = 0
      · obtain ⟨M', k, t⟩ := ih (x2 + 1) M hJ hg ⟨c1, c2, by omega⟩ (by omega) (by omega) (by omega)
        have k143 : E_V 304 143 [192, p, x2] M = some (0, M') := by
          rw [E_V_eq]
          show e_tv E_C (E_V 304) e_t304_143 [192, p, x2] M = _
          unfold e_t304_143
          simp [zq_a, zq_b, zq_c, zq_d, zq_e, zq_f, zq_g, zq_h, zq_i, zq_j, zq_k, zq_l, zq_m, zq_n, zq_o, zq_p, zq_q, zq_r, zq_s, zq_t, zq_u, zq_v, zq_w, zq_x, zq_y, zq_z, zq_A, zq_B, zq_C, zq_D, zq_E, zq_F, zq_G, zq_H, zq_I, zq_J, zq_K, zq_L, ↓zq_M, ↓zq_N, ↓zq_O, ↓zq_P, ↓zq_Q, ↓zq_R, zq_S, zq_T, zq_U, zq_V, zq_W, zq_X, zq_Y, zq_Z, zq_0, zq_1, zq_2, zq_3, zq_4, zq_5, ↓zq_6, ↓zq_7, ↓zq_8, ↓zq_9, ↓zq_aa, zq_ab, zq_ac, zq_ad, zq_ae, zq_af, zq_ag, ↓zq_ah, ↓zq_ai, ↓zq_aj, zq_ak, ↓zq_al, ↓zq_am, e_b1, e_b2, x_o1, x_o2, w5, k]
        refine ⟨M', ?_, t⟩
        rw [E_V_eq]
        show e_tv E_C (E_V 304) e_t304_82 [192, p, x2] M = _
        unfold e_t304_82
        simp [zq_a, zq_b, zq_c, zq_d, zq_e, zq_f, zq_g, zq_h, zq_i, zq_j, zq_k, zq_l, zq_m, zq_n, zq_o, zq_p, zq_q, zq_r, zq_s, zq_t, zq_u, zq_v, zq_w, zq_x, zq_y, zq_z, zq_A, zq_B, zq_C, zq_D, zq_E, zq_F, zq_G, zq_H, zq_I, zq_J, zq_K, zq_L, ↓zq_M, ↓zq_N, ↓zq_O, ↓zq_P, ↓zq_Q, ↓zq_R, zq_S, zq_T, zq_U, zq_V, zq_W, zq_X, zq_Y, zq_Z, zq_0, zq_1, zq_2, zq_3, zq_4, zq_5, ↓zq_6, ↓zq_7, ↓zq_8, ↓zq_9, ↓zq_aa, zq_ab, zq_ac, zq_ad, zq_ae, zq_af, zq_ag, ↓zq_ah, ↓zq_ai, ↓zq_aj, zq_ak, ↓zq_al, ↓zq_am, e_b1, e_b2, x_o1, x_o2, r_O0, w1, w2, w3, w4, l1, l2, q, q_n, c, k143]
      · obtain ⟨u1, u2, u3, u4⟩ := r_d1_ok (v := 8 * p + x2) hJ ⟨c2, by omega⟩ ⟨by omega, by omega⟩
        obtain ⟨M', k, t1, t2, t3⟩ := ih (x2 + 1) (r_d1 M (8 * p + x2)) u1 ((r_q_G u2).trans hg) ⟨by rw [u4]; exact c1, by rw [u3]; omega, by rw [u3]; omega⟩ (by omega) (by omega) (by omega)
        have k143 : E_V 304 143 [192, p, x2] (r_d1 M (8 * p + x2)) = some (0, M') := by
          rw [E_V_eq]
          show e_tv E_C (E_V 304) e_t304_143 [192, p, x2] (r_d1 M (8 * p + x2)) = _
          unfold e_t304_143
          simp [zq_a, zq_b, zq_c, zq_d, zq_e, zq_f, zq_g, zq_h, zq_i, zq_j, zq_k, zq_l, zq_m, zq_n, zq_o, zq_p, zq_q, zq_r, zq_s, zq_t, zq_u, zq_v, zq_w, zq_x, zq_y, zq_z, zq_A, zq_B, zq_C, zq_D, zq_E, zq_F, zq_G, zq_H, zq_I, zq_J, zq_K, zq_L, ↓zq_M, ↓zq_N, ↓zq_O, ↓zq_P, ↓zq_Q, ↓zq_R, zq_S, zq_T, zq_U, zq_V, zq_W, zq_X, zq_Y, zq_Z, zq_0, zq_1, zq_2, zq_3, zq_4, zq_5, ↓zq_6, ↓zq_7, ↓zq_8, ↓zq_9, ↓zq_aa, zq_ab, zq_ac, zq_ad, zq_ae, zq_af, zq_ag, ↓zq_ah, ↓zq_ai, ↓zq_aj, zq_ak, ↓zq_al, ↓zq_am, e_b1, e_b2, x_o1, x_o2, w5, k]
        have st := r_st203 (i := M 192 14) (v := 8 * p + x2) (M := M) c2 (by omega)
        refine ⟨M', ?_, t1, a_fr_tr u2 t2, t3⟩
        unfold r_d1 at k143
        rw [E_V_eq]
        show e_tv E_C (E_V 304) e_t304_82 [192, p, x2] M = _
        unfold e_t304_82
        simp [zq_a, zq_b, zq_c, zq_d, zq_e, zq_f, zq_g, zq_h, zq_i, zq_j, zq_k, zq_l, zq_m, zq_n, zq_o, zq_p, zq_q, zq_r, zq_s, zq_t, zq_u, zq_v, zq_w, zq_x, zq_y, zq_z, zq_A, zq_B, zq_C, zq_D, zq_E, zq_F, zq_G, zq_H, zq_I, zq_J, zq_K, zq_L, ↓zq_M, ↓zq_N, ↓zq_O, ↓zq_P, ↓zq_Q, ↓zq_R, zq_S, zq_T, zq_U, zq_V, zq_W, zq_X, zq_Y, zq_Z, zq_0, zq_1, zq_2, zq_3, zq_4, zq_5, ↓zq_6, ↓zq_7, ↓zq_8, ↓zq_9, ↓zq_aa, zq_ab, zq_ac, zq_ad, zq_ae, zq_af, zq_ag, ↓zq_ah, ↓zq_ai, ↓zq_aj, zq_ak, ↓zq_al, ↓zq_am, e_b1, e_b2, x_o1, x_o2, r_O0, r_O12, r_F14, r_P14, r_203, w1, w2, w3, w4, w6, w7, w8, l1, l2, q, q_n, c, st, k143]
    · exact hend x2 M hJ hg hc q h8
theorem r_ad_40_304 {g : Int → Int} {p a b : Int} (hr : r_rw g 40 p) (ha : 0 ≤ a ∧ a ≤ 40) (hb : 0 ≤ b ∧ b ≤ 40) : ∀ (m : Nat) (x2 : Int) (M : EM), r_J M → r_G M = g → r_cd (a + x2) b M → (8 - x2).toNat ≤ m → 0 ≤ x2 → x2 ≤ 8 → r_AD g (a + 8) (b + 8) M (E_V 304 40 [192, p, x2] M) := by
  have hr' := hr
  obtain ⟨a1, a2, a3, a4, a5, a6, a7, a8⟩ := hr'
  have hend : ∀ x2 M, r_J M → r_G M = g → r_cd (a + x2) b M → ¬ (x2 < g (28 * p + 2)) → x2 ≤ 8 → r_AD g (a + 8) (b + 8) M (E_V 304 40 [192, p, x2] M) := by
    intro x2 M hJ hg hc q h8
    have km : E_C 171 [192, p] M = some (g (28 * p + 2), M) := by rw [← hg]; exact r_many ⟨a1, a2⟩
    obtain ⟨M', k, t⟩ := r_ad_82_304 (a := a + 8) (b := b) hr hb 8 0 M hJ hg ⟨⟨hc.1.1, by have := hc.1.2; omega⟩, hc.2.1, by have := hc.2.2; omega⟩ (by decide) (by decide) (by decide)
    refine ⟨M', ?_, t⟩
    rw [E_V_eq]
    show e_tv E_C (E_V 304) e_t304_40 [192, p, x2] M = _
    unfold e_t304_40
    simp [zq_a, zq_b, zq_c, zq_d, zq_e, zq_f, zq_g, zq_h, zq_i, zq_j, zq_k, zq_l, zq_m, zq_n, zq_o, zq_p, zq_q, zq_r, zq_s, zq_t, zq_u, zq_v, zq_w, zq_x, zq_y, zq_z, zq_A, zq_B, zq_C, zq_D, zq_E, zq_F, zq_G, zq_H, zq_I, zq_J, zq_K, zq_L, ↓zq_M, ↓zq_N, ↓zq_O, ↓zq_P, ↓zq_Q, ↓zq_R, zq_S, zq_T, zq_U, zq_V, zq_W, zq_X, zq_Y, zq_Z, zq_0, zq_1, zq_2, zq_3, zq_4, zq_5, ↓zq_6, ↓zq_7, ↓zq_8, ↓zq_9, ↓zq_aa, zq_ab, zq_ac, zq_ad, zq_ae, zq_af, zq_ag, ↓zq_ah, ↓zq_ai, ↓zq_aj, zq_ak, ↓zq_al, ↓zq_am, e_b1, e_b2, x_o1, x_o2, km, q, k]
  intro m
  induction m with
  | zero => intro x2 M hJ hg hc hm h0 h8; exact hend x2 M hJ hg hc (by omega) h8
  | succ m ih =>
    intro x2 M hJ hg hc hm h0 h8
    rcases x_lt x2 (g (28 * p + 2)) with ⟨q, q_n⟩ | ⟨q, q_n⟩
    · have km : E_C 171 [192, p] M = some (g (28 * p + 2), M) := by rw [← hg]; exact r_many ⟨a1, a2⟩
      have ko : E_C 172 [192, p, x2] M = some (g (28 * p + 3 + x2), M) := by rw [← hg]; exact r_of ⟨a1, a2⟩ ⟨h0, by omega⟩
      have hv : -2147483648 ≤ g (28 * p + 3 + x2) ∧ g (28 * p + 3 + x2) ≤ 2147483647 := by rw [← hg]; exact r_gr hJ.1 _
      have w5 : e_w (x2 + 1) = x2 + 1 := a_w_id (by omega) (by omega)
      have hc' := hc
      obtain ⟨⟨c1, c2⟩, c3⟩ := hc'
      have w8 : e_w (M 192 13 + 1) = M 192 13 + 1 := a_w_id (by omega) (by omega)
      obtain ⟨u1, u2, u3, u4⟩ := r_c1_ok (v := g (28 * p + 3 + x2)) hJ ⟨c1, by omega⟩ hv
      obtain ⟨M', k, t1, t2, t3⟩ := ih (x2 + 1) (r_c1 M (g (28 * p + 3 + x2))) u1 ((r_q_G u2).trans hg) ⟨⟨by rw [u3]; omega, by rw [u3]; omega⟩, by rw [u4]; exact c3⟩ (by omega) (by omega) (by omega)
      have st := r_st202 (i := M 192 13) (v := g (28 * p + 3 + x2)) (M := M) c1 (by omega)
      refine ⟨M', ?_, t1, a_fr_tr u2 t2, t3⟩
      unfold r_c1 at k
      rw [E_V_eq]
      show e_tv E_C (E_V 304) e_t304_40 [192, p, x2] M = _
      unfold e_t304_40
      simp [zq_a, zq_b, zq_c, zq_d, zq_e, zq_f, zq_g, zq_h, zq_i, zq_j, zq_k, zq_l, zq_m, zq_n, zq_o, zq_p, zq_q, zq_r, zq_s, zq_t, zq_u, zq_v, zq_w, zq_x, zq_y, zq_z, zq_A, zq_B, zq_C, zq_D, zq_E, zq_F, zq_G, zq_H, zq_I, zq_J, zq_K, zq_L, ↓zq_M, ↓zq_N, ↓zq_O, ↓zq_P, ↓zq_Q, ↓zq_R, zq_S, zq_T, zq_U, zq_V, zq_W, zq_X, zq_Y, zq_Z, zq_0, zq_1, zq_2, zq_3, zq_4, zq_5, ↓zq_6, ↓zq_7, ↓zq_8, ↓zq_9, ↓zq_aa, zq_ab, zq_ac, zq_ad, zq_ae, zq_af, zq_ag, ↓zq_ah, ↓zq_ai, ↓zq_aj, zq_ak, ↓zq_al, ↓zq_am, e_b1, e_b2, x_o1, x_o2, r_O11, r_F13, r_P13, r_202, km, ko, w5, w8, q, q_n, st, k]
    · exact hend x2 M hJ hg hc q h8
theorem r_ad_lo_304 {g : Int → Int} {p a b : Int} {M : EM} (hr : r_cl g 40 p ∨ r_rw g 40 p) (ha : 0 ≤ a ∧ a ≤ 40) (hb : 0 ≤ b ∧ b ≤ 40) (hJ : r_J M) (hg : r_G M = g) (hc : r_cd a b M) : r_AD g (a + 8) (b + 8) M (E_C 304 [192, p] M) := by
  have h40 := r_lo_p (by decide) hr
  have kk : E_C 170 [192, p] M = some (g (28 * p), M) := by rw [← hg]; exact r_kind h40
  rcases hr with hr | hr
  · have a3 := hr.2.2.1
    have hc' := hc
    obtain ⟨⟨c1, c2⟩, c3⟩ := hc'
    obtain ⟨u1, u2, u3, u4⟩ := r_c1_ok (v := p) hJ ⟨c1, by omega⟩ ⟨by omega, by omega⟩
    have w8 : e_w (M 192 13 + 1) = M 192 13 + 1 := a_w_id (by omega) (by omega)
    have st := r_st202 (i := M 192 13) (v := p) (M := M) c1 (by omega)
    refine ⟨r_c1 M p, ?_, u1, u2, ⟨by rw [u3]; omega, by rw [u3]; omega⟩, by rw [u4]; omega, by rw [u4]; omega⟩
    unfold r_c1
    rw [r_ent (show e_rok 304 [192, p] = true from decide_eq_true r_ref)]
    show e_tv E_C (E_V 304) e_t304_0 [192, p, 0] M = _
    unfold e_t304_0
    simp [zq_a, zq_b, zq_c, zq_d, zq_e, zq_f, zq_g, zq_h, zq_i, zq_j, zq_k, zq_l, zq_m, zq_n, zq_o, zq_p, zq_q, zq_r, zq_s, zq_t, zq_u, zq_v, zq_w, zq_x, zq_y, zq_z, zq_A, zq_B, zq_C, zq_D, zq_E, zq_F, zq_G, zq_H, zq_I, zq_J, zq_K, zq_L, ↓zq_M, ↓zq_N, ↓zq_O, ↓zq_P, ↓zq_Q, ↓zq_R, zq_S, zq_T, zq_U, zq_V, zq_W, zq_X, zq_Y, zq_Z, zq_0, zq_1, zq_2, zq_3, zq_4, zq_5, ↓zq_6, ↓zq_7, ↓zq_8, ↓zq_9, ↓zq_aa, zq_ab, zq_ac, zq_ad, zq_ae, zq_af, zq_ag, ↓zq_ah, ↓zq_ai, ↓zq_aj, zq_ak, ↓zq_al, ↓zq_am, e_b1, e_b2, x_o1, x_o2, r_O11, r_F13, r_P13, r_202, kk, a3, w8, st]
  · have a3 := hr.2.2.1
    obtain ⟨M', k, t⟩ := r_ad_40_304 (a := a) (b := b) hr ha hb 8 0 M hJ hg (by rw [Int.add_zero]; exact hc) (by decide) (by decide) (by decide)
    refine ⟨M', ?_, t⟩
    rw [r_ent (show e_rok 304 [192, p] = true from decide_eq_true r_ref)]
    show e_tv E_C (E_V 304) e_t304_0 [192, p, 0] M = _
    unfold e_t304_0
    simp [zq_a, zq_b, zq_c, zq_d, zq_e, zq_f, zq_g, zq_h, zq_i, zq_j, zq_k, zq_l, zq_m, zq_n, zq_o, zq_p, zq_q, zq_r, zq_s, zq_t, zq_u, zq_v, zq_w, zq_x, zq_y, zq_z, zq_A, zq_B, zq_C, zq_D, zq_E, zq_F, zq_G, zq_H, zq_I, zq_J, zq_K, zq_L, ↓zq_M, ↓zq_N, ↓zq_O, ↓zq_P, ↓zq_Q, ↓zq_R, zq_S, zq_T, zq_U, zq_V, zq_W, zq_X, zq_Y, zq_Z, zq_0, zq_1, zq_2, zq_3, zq_4, zq_5, ↓zq_6, ↓zq_7, ↓zq_8, ↓zq_9, ↓zq_aa, zq_ab, zq_ac, zq_ad, zq_ae, zq_af, zq_ag, ↓zq_ah, ↓zq_ai, ↓zq_aj, zq_ak, ↓zq_al, ↓zq_am, e_b1, e_b2, x_o1, x_o2, kk, a3, k]
theorem r_ad_82_305 {g : Int → Int} {p a b : Int} (hr : r_rw g 40 p) (hb : 0 ≤ b ∧ b ≤ 40) : ∀ (m : Nat) (x2 : Int) (M : EM), r_J M → r_G M = g → r_cd a (b + x2) M → (8 - x2).toNat ≤ m → 0 ≤ x2 → x2 ≤ 8 → r_AD g a (b + 8) M (E_V 305 82 [192, p, x2] M) := by
  obtain ⟨a1, a2, a3, a4, a5, a6, a7, a8⟩ := hr
  have w1 : e_w (28 * p) = 28 * p := a_w_id (by omega) (by omega)
  have w2 : e_w (28 * p + 19) = 28 * p + 19 := a_w_id (by omega) (by omega)
  have w3 : e_w (28 * p + 20) = 28 * p + 20 := a_w_id (by omega) (by omega)
  have hend : ∀ x2 M, r_J M → r_G M = g → r_cd a (b + x2) M → ¬ (x2 < g (28 * p + 19)) → x2 ≤ 8 → r_AD g a (b + 8) M (E_V 305 82 [192, p, x2] M) := by
    intro x2 M hJ hg hc q h8
    have l1 : e_op 60 [193, 28 * p + 19] M = some (g (28 * p + 19)) := (r_rd (by omega) (by omega)).trans (congrArg some (congrFun hg _))
    refine ⟨M, ?_, hJ, a_fr_rf, hc.1, hc.2.1, by have := hc.2.2; omega⟩
    rw [E_V_eq]
    show e_tv E_C (E_V 305) e_t305_82 [192, p, x2] M = _
    unfold e_t305_82
    simp [zq_a, zq_b, zq_c, zq_d, zq_e, zq_f, zq_g, zq_h, zq_i, zq_j, zq_k, zq_l, zq_m, zq_n, zq_o, zq_p, zq_q, zq_r, zq_s, zq_t, zq_u, zq_v, zq_w, zq_x, zq_y, zq_z, zq_A, zq_B, zq_C, zq_D, zq_E, zq_F, zq_G, zq_H, zq_I, zq_J, zq_K, zq_L, ↓zq_M, ↓zq_N, ↓zq_O, ↓zq_P, ↓zq_Q, ↓zq_R, zq_S, zq_T, zq_U, zq_V, zq_W, zq_X, zq_Y, zq_Z, zq_0, zq_1, zq_2, zq_3, zq_4, zq_5, ↓zq_6, ↓zq_7, ↓zq_8, ↓zq_9, ↓zq_aa, zq_ab, zq_ac, zq_ad, zq_ae, zq_af, zq_ag, ↓zq_ah, ↓zq_ai, ↓zq_aj, zq_ak, ↓zq_al, ↓zq_am, e_b1, e_b2, x_o1, x_o2, r_O0, w1, w2, l1, q]
  intro m
  induction m with
  | zero => intro x2 M hJ hg hc hm h0 h8; exact hend x2 M hJ hg hc (by omega) h8
  | succ m ih =>
    intro x2 M hJ hg hc hm h0 h8
    rcases x_lt x2 (g (28 * p + 19)) with ⟨q, q_n⟩ | ⟨q, q_n⟩
    · have l1 : e_op 60 [193, 28 * p + 19] M = some (g (28 * p + 19)) := (r_rd (by omega) (by omega)).trans (congrArg some (congrFun hg _))
      have l2 : e_op 60 [193, 28 * p + 20 + x2] M = some (g (28 * p + 20 + x2)) := (r_rd (by omega) (by omega)).trans (congrArg some (congrFun hg _))
      have w4 : e_w (28 * p + 20 + x2) = 28 * p + 20 + x2 := a_w_id (by omega) (by omega)
      have w5 : e_w (x2 + 1) = x2 + 1 := a_w_id (by omega) (by omega)
      have w6 : e_w (8 * p) = 8 * p := a_w_id (by omega) (by omega)
      have w7 : e_w (8 * p + x2) = 8 * p + x2 := a_w_id (by omega) (by omega)
      have hc' := hc
      obtain ⟨c1, c2, c3⟩ := hc'
      have w8 : e_w (M 192 14 + 1) = M 192 14 + 1 := a_w_id (by omega) (by omega)
      by_cases c : g (28 * p + 20 + x2) = 0
      · obtain ⟨M', k, t⟩ := ih (x2 + 1) M hJ hg ⟨c1, c2, by omega⟩ (by omega) (by omega) (by omega)
        have k143 : E_V 305 143 [192, p, x2] M = some (0, M') := by
          rw [E_V_eq]
          show e_tv E_C (E_V 305) e_t305_143 [192, p, x2] M = _
          unfold e_t305_143
          simp [zq_a, zq_b, zq_c, zq_d, zq_e, zq_f, zq_g, zq_h, zq_i, zq_j, zq_k, zq_l, zq_m, zq_n, zq_o, zq_p, zq_q, zq_r, zq_s, zq_t, zq_u, zq_v, zq_w, zq_x, zq_y, zq_z, zq_A, zq_B, zq_C, zq_D, zq_E, zq_F, zq_G, zq_H, zq_I, zq_J, zq_K, zq_L, ↓zq_M, ↓zq_N, ↓zq_O, ↓zq_P, ↓zq_Q, ↓zq_R, zq_S, zq_T, zq_U, zq_V, zq_W, zq_X, zq_Y, zq_Z, zq_0, zq_1, zq_2, zq_3, zq_4, zq_5, ↓zq_6, ↓zq_7, ↓zq_8, ↓zq_9, ↓zq_aa, zq_ab, zq_ac, zq_ad, zq_ae, zq_af, zq_ag, ↓zq_ah, ↓zq_ai, ↓zq_aj, zq_ak, ↓zq_al, ↓zq_am, e_b1, e_b2, x_o1, x_o2, w5, k]
        refine ⟨M', ?_, t⟩
        rw [E_V_eq]
        show e_tv E_C (E_V 305) e_t305_82 [192, p, x2] M = _
        unfold e_t305_82
        simp [zq_a, zq_b, zq_c, zq_d, zq_e, zq_f, zq_g, zq_h, zq_i, zq_j, zq_k, zq_l, zq_m, zq_n, zq_o, zq_p, zq_q, zq_r, zq_s, zq_t, zq_u, zq_v, zq_w, zq_x, zq_y, zq_z, zq_A, zq_B, zq_C, zq_D, zq_E, zq_F, zq_G, zq_H, zq_I, zq_J, zq_K, zq_L, ↓zq_M, ↓zq_N, ↓zq_O, ↓zq_P, ↓zq_Q, ↓zq_R, zq_S, zq_T, zq_U, zq_V, zq_W, zq_X, zq_Y, zq_Z, zq_0, zq_1, zq_2, zq_3, zq_4, zq_5, ↓zq_6, ↓zq_7, ↓zq_8, ↓zq_9, ↓zq_aa, zq_ab, zq_ac, zq_ad, zq_ae, zq_af, zq_ag, ↓zq_ah, ↓zq_ai, ↓zq_aj, zq_ak, ↓zq_al, ↓zq_am, e_b1, e_b2, x_o1, x_o2, r_O0, w1, w2, w3, w4, l1, l2, q, q_n, c, k143]
      · obtain ⟨u1, u2, u3, u4⟩ := r_d1_ok (v := 8 * p + x2) hJ ⟨c2, by omega⟩ ⟨by omega, by omega⟩
        obtain ⟨M', k, t1, t2, t3⟩ := ih (x2 + 1) (r_d1 M (8 * p + x2)) u1 ((r_q_G u2).trans hg) ⟨by rw [u4]; exact c1, by rw [u3]; omega, by rw [u3]; omega⟩ (by omega) (by omega) (by omega)
        have k143 : E_V 305 143 [192, p, x2] (r_d1 M (8 * p + x2)) = some (0, M') := by
          rw [E_V_eq]
          show e_tv E_C (E_V 305) e_t305_143 [192, p, x2] (r_d1 M (8 * p + x2)) = _
          unfold e_t305_143
          simp [zq_a, zq_b, zq_c, zq_d, zq_e, zq_f, zq_g, zq_h, zq_i, zq_j, zq_k, zq_l, zq_m, zq_n, zq_o, zq_p, zq_q, zq_r, zq_s, zq_t, zq_u, zq_v, zq_w, zq_x, zq_y, zq_z, zq_A, zq_B, zq_C, zq_D, zq_E, zq_F, zq_G, zq_H, zq_I, zq_J, zq_K, zq_L, ↓zq_M, ↓zq_N, ↓zq_O, ↓zq_P, ↓zq_Q, ↓zq_R, zq_S, zq_T, zq_U, zq_V, zq_W, zq_X, zq_Y, zq_Z, zq_0, zq_1, zq_2, zq_3, zq_4, zq_5, ↓zq_6, ↓zq_7, ↓zq_8, ↓zq_9, ↓zq_aa, zq_ab, zq_ac, zq_ad, zq_ae, zq_af, zq_ag, ↓zq_ah, ↓zq_ai, ↓zq_aj, zq_ak, ↓zq_al, ↓zq_am, e_b1, e_b2, x_o1, x_o2, w5, k]
        have st := r_st203 (i := M 192 14) (v := 8 * p + x2) (M := M) c2 (by omega)
        refine ⟨M', ?_, t1, a_fr_tr u2 t2, t3⟩
        unfold r_d1 at k143
        rw [E_V_eq]
        show e_tv E_C (E_V 305) e_t305_82 [192, p, x2] M = _
        unfold e_t305_82
        simp [zq_a, zq_b, zq_c, zq_d, zq_e, zq_f, zq_g, zq_h, zq_i, zq_j, zq_k, zq_l, zq_m, zq_n, zq_o, zq_p, zq_q, zq_r, zq_s, zq_t, zq_u, zq_v, zq_w, zq_x, zq_y, zq_z, zq_A, zq_B, zq_C, zq_D, zq_E, zq_F, zq_G, zq_H, zq_I, zq_J, zq_K, zq_L, ↓zq_M, ↓zq_N, ↓zq_O, ↓zq_P, ↓zq_Q, ↓zq_R, zq_S, zq_T, zq_U, zq_V, zq_W, zq_X, zq_Y, zq_Z, zq_0, zq_1, zq_2, zq_3, zq_4, zq_5, ↓zq_6, ↓zq_7, ↓zq_8, ↓zq_9, ↓zq_aa, zq_ab, zq_ac, zq_ad, zq_ae, zq_af, zq_ag, ↓zq_ah, ↓zq_ai, ↓zq_aj, zq_ak, ↓zq_al, ↓zq_am, e_b1, e_b2, x_o1, x_o2, r_O0, r_O12, r_F14, r_P14, r_203, w1, w2, w3, w4, w6, w7, w8, l1, l2, q, q_n, c, st, k143]
    · exact hend x2 M hJ hg hc q h8
theorem r_ad_40_305 {g : Int → Int} {p a b : Int} (hr : r_rw g 40 p) (ha : 0 ≤ a ∧ a ≤ 40) (hb : 0 ≤ b ∧ b ≤ 40) : ∀ (m : Nat) (x2 : Int) (M : EM), r_J M → r_G M = g → r_cd (a + x2) b M → (8 - x2).toNat ≤ m → 0 ≤ x2 → x2 ≤ 8 → r_AD g (a + 8) (b + 8) M (E_V 305 40 [192, p, x2] M) := by
  have hr' := hr
  obtain ⟨a1, a2, a3, a4, a5, a6, a7, a8⟩ := hr'
  have hend : ∀ x2 M, r_J M → r_G M = g → r_cd (a + x2) b M → ¬ (x2 < g (28 * p + 2)) → x2 ≤ 8 → r_AD g (a + 8) (b + 8) M (E_V 305 40 [192, p, x2] M) := by
    intro x2 M hJ hg hc q h8
    have km : E_C 171 [192, p] M = some (g (28 * p + 2), M) := by rw [← hg]; exact r_many ⟨a1, a2⟩
    obtain ⟨M', k, t⟩ := r_ad_82_305 (a := a + 8) (b := b) hr hb 8 0 M hJ hg ⟨⟨hc.1.1, by have := hc.1.2; omega⟩, hc.2.1, by have := hc.2.2; omega⟩ (by decide) (by decide) (by decide)
    refine ⟨M', ?_, t⟩
    rw [E_V_eq]
    show e_tv E_C (E_V 305) e_t305_40 [192, p, x2] M = _
    unfold e_t305_40
    simp [zq_a, zq_b, zq_c, zq_d, zq_e, zq_f, zq_g, zq_h, zq_i, zq_j, zq_k, zq_l, zq_m, zq_n, zq_o, zq_p, zq_q, zq_r, zq_s, zq_t, zq_u, zq_v, zq_w, zq_x, zq_y, zq_z, zq_A, zq_B, zq_C, zq_D, zq_E, zq_F, zq_G, zq_H, zq_I, zq_J, zq_K, zq_L, ↓zq_M, ↓zq_N, ↓zq_O, ↓zq_P, ↓zq_Q, ↓zq_R, zq_S, zq_T, zq_U, zq_V, zq_W, zq_X, zq_Y, zq_Z, zq_0, zq_1, zq_2, zq_3, zq_4, zq_5, ↓zq_6, ↓zq_7, ↓zq_8, ↓zq_9, ↓zq_aa, zq_ab, zq_ac, zq_ad, zq_ae, zq_af, zq_ag, ↓zq_ah, ↓zq_ai, ↓zq_aj, zq_ak, ↓zq_al, ↓zq_am, e_b1, e_b2, x_o1, x_o2, km, q, k]
  intro m
  induction m with
  | zero => intro x2 M hJ hg hc hm h0 h8; exact hend x2 M hJ hg hc (by omega) h8
  | succ m ih =>
    intro x2 M hJ hg hc hm h0 h8
    rcases x_lt x2 (g (28 * p + 2)) with ⟨q, q_n⟩ | ⟨q, q_n⟩
    · have km : E_C 171 [192, p] M = some (g (28 * p + 2), M) := by rw [← hg]; exact r_many ⟨a1, a2⟩
      have ko : E_C 172 [192, p, x2] M = some (g (28 * p + 3 + x2), M) := by rw [← hg]; exact r_of ⟨a1, a2⟩ ⟨h0, by omega⟩
      have hv : -2147483648 ≤ g (28 * p + 3 + x2) ∧ g (28 * p + 3 + x2) ≤ 2147483647 := by rw [← hg]; exact r_gr hJ.1 _
      have w5 : e_w (x2 + 1) = x2 + 1 := a_w_id (by omega) (by omega)
      have hc' := hc
      obtain ⟨⟨c1, c2⟩, c3⟩ := hc'
      have w8 : e_w (M 192 13 + 1) = M 192 13 + 1 := a_w_id (by omega) (by omega)
      obtain ⟨u1, u2, u3, u4⟩ := r_c1_ok (v := g (28 * p + 3 + x2)) hJ ⟨c1, by omega⟩ hv
      obtain ⟨M', k, t1, t2, t3⟩ := ih (x2 + 1) (r_c1 M (g (28 * p + 3 + x2))) u1 ((r_q_G u2).trans hg) ⟨⟨by rw [u3]; omega, by rw [u3]; omega⟩, by rw [u4]; exact c3⟩ (by omega) (by omega) (by omega)
      have st := r_st202 (i := M 192 13) (v := g (28 * p + 3 + x2)) (M := M) c1 (by omega)
      refine ⟨M', ?_, t1, a_fr_tr u2 t2, t3⟩
      unfold r_c1 at k
      rw [E_V_eq]
      show e_tv E_C (E_V 305) e_t305_40 [192, p, x2] M = _
      unfold e_t305_40
      simp [zq_a, zq_b, zq_c, zq_d, zq_e, zq_f, zq_g, zq_h, zq_i, zq_j, zq_k, zq_l, zq_m, zq_n, zq_o, zq_p, zq_q, zq_r, zq_s, zq_t, zq_u, zq_v, zq_w, zq_x, zq_y, zq_z, zq_A, zq_B, zq_C, zq_D, zq_E, zq_F, zq_G, zq_H, zq_I, zq_J, zq_K, zq_L, ↓zq_M, ↓zq_N, ↓zq_O, ↓zq_P, ↓zq_Q, ↓zq_R, zq_S, zq_T, zq_U, zq_V, zq_W, zq_X, zq_Y, zq_Z, zq_0, zq_1, zq_2, zq_3, zq_4, zq_5, ↓zq_6, ↓zq_7, ↓zq_8, ↓zq_9, ↓zq_aa, zq_ab, zq_ac, zq_ad, zq_ae, zq_af, zq_ag, ↓zq_ah, ↓zq_ai, ↓zq_aj, zq_ak, ↓zq_al, ↓zq_am, e_b1, e_b2, x_o1, x_o2, r_O11, r_F13, r_P13, r_202, km, ko, w5, w8, q, q_n, st, k]
    · exact hend x2 M hJ hg hc q h8
theorem r_ad_lo_305 {g : Int → Int} {p a b : Int} {M : EM} (hr : r_cl g 40 p ∨ r_rw g 40 p) (ha : 0 ≤ a ∧ a ≤ 40) (hb : 0 ≤ b ∧ b ≤ 40) (hJ : r_J M) (hg : r_G M = g) (hc : r_cd a b M) : r_AD g (a + 8) (b + 8) M (E_C 305 [192, p] M) := by
  have h40 := r_lo_p (by decide) hr
  have kk : E_C 170 [192, p] M = some (g (28 * p), M) := by rw [← hg]; exact r_kind h40
  rcases hr with hr | hr
  · have a3 := hr.2.2.1
    have hc' := hc
    obtain ⟨⟨c1, c2⟩, c3⟩ := hc'
    obtain ⟨u1, u2, u3, u4⟩ := r_c1_ok (v := p) hJ ⟨c1, by omega⟩ ⟨by omega, by omega⟩
    have w8 : e_w (M 192 13 + 1) = M 192 13 + 1 := a_w_id (by omega) (by omega)
    have st := r_st202 (i := M 192 13) (v := p) (M := M) c1 (by omega)
    refine ⟨r_c1 M p, ?_, u1, u2, ⟨by rw [u3]; omega, by rw [u3]; omega⟩, by rw [u4]; omega, by rw [u4]; omega⟩
    unfold r_c1
    rw [r_ent (show e_rok 305 [192, p] = true from decide_eq_true r_ref)]
    show e_tv E_C (E_V 305) e_t305_0 [192, p, 0] M = _
    unfold e_t305_0
    simp [zq_a, zq_b, zq_c, zq_d, zq_e, zq_f, zq_g, zq_h, zq_i, zq_j, zq_k, zq_l, zq_m, zq_n, zq_o, zq_p, zq_q, zq_r, zq_s, zq_t, zq_u, zq_v, zq_w, zq_x, zq_y, zq_z, zq_A, zq_B, zq_C, zq_D, zq_E, zq_F, zq_G, zq_H, zq_I, zq_J, zq_K, zq_L, ↓zq_M, ↓zq_N, ↓zq_O, ↓zq_P, ↓zq_Q, ↓zq_R, zq_S, zq_T, zq_U, zq_V, zq_W, zq_X, zq_Y, zq_Z, zq_0, zq_1, zq_2, zq_3, zq_4, zq_5, ↓zq_6, ↓zq_7, ↓zq_8, ↓zq_9, ↓zq_aa, zq_ab, zq_ac, zq_ad, zq_ae, zq_af, zq_ag, ↓zq_ah, ↓zq_ai, ↓zq_aj, zq_ak, ↓zq_al, ↓zq_am, e_b1, e_b2, x_o1, x_o2, r_O11, r_F13, r_P13, r_202, kk, a3, w8, st]
  · have a3 := hr.2.2.1
    obtain ⟨M', k, t⟩ := r_ad_40_305 (a := a) (b := b) hr ha hb 8 0 M hJ hg (by rw [Int.add_zero]; exact hc) (by decide) (by decide) (by decide)
    refine ⟨M', ?_, t⟩
    rw [r_ent (show e_rok 305 [192, p] = true from decide_eq_true r_ref)]
    show e_tv E_C (E_V 305) e_t305_0 [192, p, 0] M = _
    unfold e_t305_0
    simp [zq_a, zq_b, zq_c, zq_d, zq_e, zq_f, zq_g, zq_h, zq_i, zq_j, zq_k, zq_l, zq_m, zq_n, zq_o, zq_p, zq_q, zq_r, zq_s, zq_t, zq_u, zq_v, zq_w, zq_x, zq_y, zq_z, zq_A, zq_B, zq_C, zq_D, zq_E, zq_F, zq_G, zq_H, zq_I, zq_J, zq_K, zq_L, ↓zq_M, ↓zq_N, ↓zq_O, ↓zq_P, ↓zq_Q, ↓zq_R, zq_S, zq_T, zq_U, zq_V, zq_W, zq_X, zq_Y, zq_Z, zq_0, zq_1, zq_2, zq_3, zq_4, zq_5, ↓zq_6, ↓zq_7, ↓zq_8, ↓zq_9, ↓zq_aa, zq_ab, zq_ac, zq_ad, zq_ae, zq_af, zq_ag, ↓zq_ah, ↓zq_ai, ↓zq_aj, zq_ak, ↓zq_al, ↓zq_am, e_b1, e_b2, x_o1, x_o2, kk, a3, k]
theorem r_ad_152_304 {g : Int → Int} {p : Int} (hp : 0 ≤ p ∧ p < 40) (hn : g (28 * p + 2) ≤ 6) (hm0 : ∀ k, 0 ≤ k → k < g (28 * p + 2) → r_cl g 40 (g (28 * p + 3 + k)) ∨ r_rw g 40 (g (28 * p + 3 + k))) : ∀ (m : Nat) (x2 : Int) (M : EM), r_J M → r_G M = g → r_cd (8 * x2) (8 * x2) M → (6 - x2).toNat ≤ m → 0 ≤ x2 → x2 ≤ 6 → r_AD g 48 48 M (E_V 304 152 [192, p, x2] M) := by
  have hend : ∀ x2 M, r_J M → r_G M = g → r_cd (8 * x2) (8 * x2) M → ¬ (x2 < g (28 * p + 2)) → x2 ≤ 6 → r_AD g 48 48 M (E_V 304 152 [192, p, x2] M) := by
    intro x2 M hJ hg hc q h8
    have km : E_C 171 [192, p] M = some (g (28 * p + 2), M) := by rw [← hg]; exact r_many hp
    refine ⟨M, ?_, hJ, a_fr_rf, ⟨hc.1.1, by have := hc.1.2; omega⟩, hc.2.1, by have := hc.2.2; omega⟩
    rw [E_V_eq]
    show e_tv E_C (E_V 304) e_t304_152 [192, p, x2] M = _
    unfold e_t304_152
    simp [zq_a, zq_b, zq_c, zq_d, zq_e, zq_f, zq_g, zq_h, zq_i, zq_j, zq_k, zq_l, zq_m, zq_n, zq_o, zq_p, zq_q, zq_r, zq_s, zq_t, zq_u, zq_v, zq_w, zq_x, zq_y, zq_z, zq_A, zq_B, zq_C, zq_D, zq_E, zq_F, zq_G, zq_H, zq_I, zq_J, zq_K, zq_L, ↓zq_M, ↓zq_N, ↓zq_O, ↓zq_P, ↓zq_Q, ↓zq_R, zq_S, zq_T, zq_U, zq_V, zq_W, zq_X, zq_Y, zq_Z, zq_0, zq_1, zq_2, zq_3, zq_4, zq_5, ↓zq_6, ↓zq_7, ↓zq_8, ↓zq_9, ↓zq_aa, zq_ab, zq_ac, zq_ad, zq_ae, zq_af, zq_ag, ↓zq_ah, ↓zq_ai, ↓zq_aj, zq_ak, ↓zq_al, ↓zq_am, e_b1, e_b2, x_o1, x_o2, km, q]
  intro m
  induction m with
  | zero => intro x2 M hJ hg hc hm h0 h8; exact hend x2 M hJ hg hc (by omega) h8
  | succ m ih =>
    intro x2 M hJ hg hc hm h0 h8
    rcases x_lt x2 (g (28 * p + 2)) with ⟨q, q_n⟩ | ⟨q, q_n⟩
    · have km : E_C 171 [192, p] M = some (g (28 * p + 2), M) := by rw [← hg]; exact r_many hp
      have ko : E_C 172 [192, p, x2] M = some (g (28 * p + 3 + x2), M) := by rw [← hg]; exact r_of hp ⟨h0, by omega⟩
      have w5 : e_w (x2 + 1) = x2 + 1 := a_w_id (by omega) (by omega)
      obtain ⟨M1, k1, u1, u2, u3⟩ := r_ad_lo_305 (a := 8 * x2) (b := 8 * x2) (hm0 x2 h0 q) ⟨by omega, by omega⟩ ⟨by omega, by omega⟩ hJ hg hc
      obtain ⟨M', k, t1, t2, t3⟩ := ih (x2 + 1) M1 u1 ((r_q_G u2).trans hg) (by rw [show 8 * (x2 + 1) = 8 * x2 + 8 by omega]; exact u3) (by omega) (by omega) (by omega)
      refine ⟨M', ?_, t1, a_fr_tr u2 t2, t3⟩
      rw [E_V_eq]
      show e_tv E_C (E_V 304) e_t304_152 [192, p, x2] M = _
      unfold e_t304_152
      simp [zq_a, zq_b, zq_c, zq_d, zq_e, zq_f, zq_g, zq_h, zq_i, zq_j, zq_k, zq_l, zq_m, zq_n, zq_o, zq_p, zq_q, zq_r, zq_s, zq_t, zq_u, zq_v, zq_w, zq_x, zq_y, zq_z, zq_A, zq_B, zq_C, zq_D, zq_E, zq_F, zq_G, zq_H, zq_I, zq_J, zq_K, zq_L, ↓zq_M, ↓zq_N, ↓zq_O, ↓zq_P, ↓zq_Q, ↓zq_R, zq_S, zq_T, zq_U, zq_V, zq_W, zq_X, zq_Y, zq_Z, zq_0, zq_1, zq_2, zq_3, zq_4, zq_5, ↓zq_6, ↓zq_7, ↓zq_8, ↓zq_9, ↓zq_aa, zq_ab, zq_ac, zq_ad, zq_ae, zq_af, zq_ag, ↓zq_ah, ↓zq_ai, ↓zq_aj, zq_ak, ↓zq_al, ↓zq_am, e_b1, e_b2, x_o1, x_o2, km, ko, k1, w5, q, q_n, k]
    · exact hend x2 M hJ hg hc q h8
theorem r_ad_fd_304 {g : Int → Int} {p : Int} {M : EM} (hr : r_fd g 40 p) (hJ : r_J M) (hg : r_G M = g) (hc : r_cd 0 0 M) : r_AD g 48 48 M (E_C 304 [192, p] M) := by
  obtain ⟨a1, a2, a3, a4, a5, a6⟩ := hr
  have kk : E_C 170 [192, p] M = some (g (28 * p), M) := by rw [← hg]; exact r_kind ⟨a1, a2⟩
  obtain ⟨M', k, t⟩ := r_ad_152_304 ⟨a1, a2⟩ a5 (fun k k0 k1 => (a6 k k0 k1).imp (fun h => r_cl_up h (by omega)) (fun h => ⟨h.1, by have := h.2.1; omega, h.2.2⟩)) 6 0 M hJ hg hc (by decide) (by decide) (by decide)
  refine ⟨M', ?_, t⟩
  rw [r_ent (show e_rok 304 [192, p] = true from decide_eq_true r_ref)]
  show e_tv E_C (E_V 304) e_t304_0 [192, p, 0] M = _
  unfold e_t304_0
  simp [zq_a, zq_b, zq_c, zq_d, zq_e, zq_f, zq_g, zq_h, zq_i, zq_j, zq_k, zq_l, zq_m, zq_n, zq_o, zq_p, zq_q, zq_r, zq_s, zq_t, zq_u, zq_v, zq_w, zq_x, zq_y, zq_z, zq_A, zq_B, zq_C, zq_D, zq_E, zq_F, zq_G, zq_H, zq_I, zq_J, zq_K, zq_L, ↓zq_M, ↓zq_N, ↓zq_O, ↓zq_P, ↓zq_Q, ↓zq_R, zq_S, zq_T, zq_U, zq_V, zq_W, zq_X, zq_Y, zq_Z, zq_0, zq_1, zq_2, zq_3, zq_4, zq_5, ↓zq_6, ↓zq_7, ↓zq_8, ↓zq_9, ↓zq_aa, zq_ab, zq_ac, zq_ad, zq_ae, zq_af, zq_ag, ↓zq_ah, ↓zq_ai, ↓zq_aj, zq_ak, ↓zq_al, ↓zq_am, e_b1, e_b2, x_o1, x_o2, kk, a3, k]
theorem r_ad_152_176 {g : Int → Int} {p : Int} (hp : 0 ≤ p ∧ p < 40) (hn : g (28 * p + 2) ≤ 6) (hm0 : ∀ k, 0 ≤ k → k < g (28 * p + 2) → r_cl g 40 (g (28 * p + 3 + k)) ∨ r_rw g 40 (g (28 * p + 3 + k))) : ∀ (m : Nat) (x2 : Int) (M : EM), r_J M → r_G M = g → r_cd (8 * x2) (8 * x2) M → (6 - x2).toNat ≤ m → 0 ≤ x2 → x2 ≤ 6 → r_AD g 48 48 M (E_V 176 152 [192, p, x2] M) := by
  have hend : ∀ x2 M, r_J M → r_G M = g → r_cd (8 * x2) (8 * x2) M → ¬ (x2 < g (28 * p + 2)) → x2 ≤ 6 → r_AD g 48 48 M (E_V 176 152 [192, p, x2] M) := by
    intro x2 M hJ hg hc q h8
    have km : E_C 171 [192, p] M = some (g (28 * p + 2), M) := by rw [← hg]; exact r_many hp
    refine ⟨M, ?_, hJ, a_fr_rf, ⟨hc.1.1, by have := hc.1.2; omega⟩, hc.2.1, by have := hc.2.2; omega⟩
    rw [E_V_eq]
    show e_tv E_C (E_V 176) e_t176_152 [192, p, x2] M = _
    unfold e_t176_152
    simp [zq_a, zq_b, zq_c, zq_d, zq_e, zq_f, zq_g, zq_h, zq_i, zq_j, zq_k, zq_l, zq_m, zq_n, zq_o, zq_p, zq_q, zq_r, zq_s, zq_t, zq_u, zq_v, zq_w, zq_x, zq_y, zq_z, zq_A, zq_B, zq_C, zq_D, zq_E, zq_F, zq_G, zq_H, zq_I, zq_J, zq_K, zq_L, ↓zq_M, ↓zq_N, ↓zq_O, ↓zq_P, ↓zq_Q, ↓zq_R, zq_S, zq_T, zq_U, zq_V, zq_W, zq_X, zq_Y, zq_Z, zq_0, zq_1, zq_2, zq_3, zq_4, zq_5, ↓zq_6, ↓zq_7, ↓zq_8, ↓zq_9, ↓zq_aa, zq_ab, zq_ac, zq_ad, zq_ae, zq_af, zq_ag, ↓zq_ah, ↓zq_ai, ↓zq_aj, zq_ak, ↓zq_al, ↓zq_am, e_b1, e_b2, x_o1, x_o2, km, q]
  intro m
  induction m with
  | zero => intro x2 M hJ hg hc hm h0 h8; exact hend x2 M hJ hg hc (by omega) h8
  | succ m ih =>
    intro x2 M hJ hg hc hm h0 h8
    rcases x_lt x2 (g (28 * p + 2)) with ⟨q, q_n⟩ | ⟨q, q_n⟩
    · have km : E_C 171 [192, p] M = some (g (28 * p + 2), M) := by rw [← hg]; exact r_many hp
      have ko : E_C 172 [192, p, x2] M = some (g (28 * p + 3 + x2), M) := by rw [← hg]; exact r_of hp ⟨h0, by omega⟩
      have w5 : e_w (x2 + 1) = x2 + 1 := a_w_id (by omega) (by omega)
      obtain ⟨M1, k1, u1, u2, u3⟩ := r_ad_lo_304 (a := 8 * x2) (b := 8 * x2) (hm0 x2 h0 q) ⟨by omega, by omega⟩ ⟨by omega, by omega⟩ hJ hg hc
      obtain ⟨M', k, t1, t2, t3⟩ := ih (x2 + 1) M1 u1 ((r_q_G u2).trans hg) (by rw [show 8 * (x2 + 1) = 8 * x2 + 8 by omega]; exact u3) (by omega) (by omega) (by omega)
      refine ⟨M', ?_, t1, a_fr_tr u2 t2, t3⟩
      rw [E_V_eq]
      show e_tv E_C (E_V 176) e_t176_152 [192, p, x2] M = _
      unfold e_t176_152
      simp [zq_a, zq_b, zq_c, zq_d, zq_e, zq_f, zq_g, zq_h, zq_i, zq_j, zq_k, zq_l, zq_m, zq_n, zq_o, zq_p, zq_q, zq_r, zq_s, zq_t, zq_u, zq_v, zq_w, zq_x, zq_y, zq_z, zq_A, zq_B, zq_C, zq_D, zq_E, zq_F, zq_G, zq_H, zq_I, zq_J, zq_K, zq_L, ↓zq_M, ↓zq_N, ↓zq_O, ↓zq_P, ↓zq_Q, ↓zq_R, zq_S, zq_T, zq_U, zq_V, zq_W, zq_X, zq_Y, zq_Z, zq_0, zq_1, zq_2, zq_3, zq_4, zq_5, ↓zq_6, ↓zq_7, ↓zq_8, ↓zq_9, ↓zq_aa, zq_ab, zq_ac, zq_ad, zq_ae, zq_af, zq_ag, ↓zq_ah, ↓zq_ai, ↓zq_aj, zq_ak, ↓zq_al, ↓zq_am, e_b1, e_b2, x_o1, x_o2, km, ko, k1, w5, q, q_n, k]
    · exact hend x2 M hJ hg hc q h8
theorem r_ad_fd_176 {g : Int → Int} {p : Int} {M : EM} (hr : r_fd g 40 p) (hJ : r_J M) (hg : r_G M = g) (hc : r_cd 0 0 M) : r_AD g 48 48 M (E_C 176 [192, p] M) := by
  obtain ⟨a1, a2, a3, a4, a5, a6⟩ := hr
  have kk : E_C 170 [192, p] M = some (g (28 * p), M) := by rw [← hg]; exact r_kind ⟨a1, a2⟩
  obtain ⟨M', k, t⟩ := r_ad_152_176 ⟨a1, a2⟩ a5 (fun k k0 k1 => (a6 k k0 k1).imp (fun h => r_cl_up h (by omega)) (fun h => ⟨h.1, by have := h.2.1; omega, h.2.2⟩)) 6 0 M hJ hg hc (by decide) (by decide) (by decide)
  refine ⟨M', ?_, t⟩
  rw [r_ent (show e_rok 176 [192, p] = true from decide_eq_true r_ref)]
  show e_tv E_C (E_V 176) e_t176_0 [192, p, 0] M = _
  unfold e_t176_0
  simp [zq_a, zq_b, zq_c, zq_d, zq_e, zq_f, zq_g, zq_h, zq_i, zq_j, zq_k, zq_l, zq_m, zq_n, zq_o, zq_p, zq_q, zq_r, zq_s, zq_t, zq_u, zq_v, zq_w, zq_x, zq_y, zq_z, zq_A, zq_B, zq_C, zq_D, zq_E, zq_F, zq_G, zq_H, zq_I, zq_J, zq_K, zq_L, ↓zq_M, ↓zq_N, ↓zq_O, ↓zq_P, ↓zq_Q, ↓zq_R, zq_S, zq_T, zq_U, zq_V, zq_W, zq_X, zq_Y, zq_Z, zq_0, zq_1, zq_2, zq_3, zq_4, zq_5, ↓zq_6, ↓zq_7, ↓zq_8, ↓zq_9, ↓zq_aa, zq_ab, zq_ac, zq_ad, zq_ae, zq_af, zq_ag, ↓zq_ah, ↓zq_ai, ↓zq_aj, zq_ak, ↓zq_al, ↓zq_am, e_b1, e_b2, x_o1, x_o2, kk, a3, k]
theorem r_cd_up {M : EM} {a b : Int} (h : r_cd a b M) (ha : a ≤ 48) (hb : b ≤ 48) : r_cd 48 48 M := ⟨⟨h.1.1, by have := h.1.2; omega⟩, h.2.1, by have := h.2.2; omega⟩
theorem r_AD_up {g : Int → Int} {a b : Int} {M : EM} {o : EO} (h : r_AD g a b M o) (ha : a ≤ 48) (hb : b ≤ 48) : r_AD g 48 48 M o := by
  obtain ⟨M', k, t1, t2, t3⟩ := h
  exact ⟨M', k, t1, t2, r_cd_up t3 ha hb⟩
theorem r_adds {p : Int} {M : EM} (hJ : r_J M) (hp : r_pt (r_G M) 40 p) (hc : r_cd 0 0 M) : r_AD (r_G M) 48 48 M (E_C 176 [192, p] M) := by
  rcases hp with hp | hp | hp | hp
  · exact r_AD_up (r_ad_lo_176 (a := 0) (b := 0) (Or.inl hp) (by decide) (by decide) hJ rfl hc) (by decide) (by decide)
  · exact r_AD_up (r_ad_lo_176 (a := 0) (b := 0) (Or.inr hp) (by decide) (by decide) hJ rfl hc) (by decide) (by decide)
  · exact r_ad_fd_176 hp hJ rfl hc
  · obtain ⟨a1, a2, a3, a4, a5⟩ := hp
    have kk : E_C 170 [192, p] M = some (r_G M (28 * p), M) := r_kind ⟨a1, a2⟩
    have km : E_C 171 [192, p] M = some (1, M) := by
      have h := r_many (M := M) (p := p) ⟨a1, a2⟩
      rw [show M 193 (28 * p + 2).toNat = 1 from a4.1] at h
      exact h
    have ko : E_C 172 [192, p, 0] M = some (r_G M (28 * p + 3), M) := by
      have h := r_of (M := M) (p := p) (k := 0) ⟨a1, a2⟩ ⟨by decide, by decide⟩
      rw [Int.add_zero] at h
      exact h
    have h3 : r_AD (r_G M) 48 48 M (E_C 304 [192, r_G M (28 * p + 3)] M) := by
      rcases a5 with h | h | h
      · exact r_AD_up (r_ad_lo_304 (a := 0) (b := 0) (Or.inl (r_cl_up h (by omega))) (by decide) (by decide) hJ rfl hc) (by decide) (by decide)
      · exact r_AD_up (r_ad_lo_304 (a := 0) (b := 0) (Or.inr ⟨h.1, by have := h.2.1; omega, h.2.2⟩) (by decide) (by decide) hJ rfl hc) (by decide) (by decide)
      · exact r_ad_fd_304 ⟨h.1, by have := h.2.1; omega, h.2.2⟩ hJ rfl hc
    obtain ⟨M', k, t1, t2, t3⟩ := h3
    have w1 : e_w (0 + 1) = 1 := a_w_id (by decide) (by decide)
    have k2 : E_V 176 152 [192, p, 1] M' = some (0, M') := by
      have km' : E_C 171 [192, p] M' = some (1, M') := by
        have h := r_many (M := M') (p := p) ⟨a1, a2⟩
        rw [show M' 193 (28 * p + 2).toNat = 1 from (congrFun (r_q_G t2) _).trans a4.1] at h
        exact h
      rw [E_V_eq]
      show e_tv E_C (E_V 176) e_t176_152 [192, p, 1] M' = _
      unfold e_t176_152
      simp [zq_a, zq_b, zq_c, zq_d, zq_e, zq_f, zq_g, zq_h, zq_i, zq_j, zq_k, zq_l, zq_m, zq_n, zq_o, zq_p, zq_q, zq_r, zq_s, zq_t, zq_u, zq_v, zq_w, zq_x, zq_y, zq_z, zq_A, zq_B, zq_C, zq_D, zq_E, zq_F, zq_G, zq_H, zq_I, zq_J, zq_K, zq_L, ↓zq_M, ↓zq_N, ↓zq_O, ↓zq_P, ↓zq_Q, ↓zq_R, zq_S, zq_T, zq_U, zq_V, zq_W, zq_X, zq_Y, zq_Z, zq_0, zq_1, zq_2, zq_3, zq_4, zq_5, ↓zq_6, ↓zq_7, ↓zq_8, ↓zq_9, ↓zq_aa, zq_ab, zq_ac, zq_ad, zq_ae, zq_af, zq_ag, ↓zq_ah, ↓zq_ai, ↓zq_aj, zq_ak, ↓zq_al, ↓zq_am, e_b1, e_b2, x_o1, x_o2, km']
    have k3 : E_V 176 152 [192, p, 0] M = some (0, M') := by
      rw [E_V_eq]
      show e_tv E_C (E_V 176) e_t176_152 [192, p, 0] M = _
      unfold e_t176_152
      simp [zq_a, zq_b, zq_c, zq_d, zq_e, zq_f, zq_g, zq_h, zq_i, zq_j, zq_k, zq_l, zq_m, zq_n, zq_o, zq_p, zq_q, zq_r, zq_s, zq_t, zq_u, zq_v, zq_w, zq_x, zq_y, zq_z, zq_A, zq_B, zq_C, zq_D, zq_E, zq_F, zq_G, zq_H, zq_I, zq_J, zq_K, zq_L, ↓zq_M, ↓zq_N, ↓zq_O, ↓zq_P, ↓zq_Q, ↓zq_R, zq_S, zq_T, zq_U, zq_V, zq_W, zq_X, zq_Y, zq_Z, zq_0, zq_1, zq_2, zq_3, zq_4, zq_5, ↓zq_6, ↓zq_7, ↓zq_8, ↓zq_9, ↓zq_aa, zq_ab, zq_ac, zq_ad, zq_ae, zq_af, zq_ag, ↓zq_ah, ↓zq_ai, ↓zq_aj, zq_ak, ↓zq_al, ↓zq_am, e_b1, e_b2, x_o1, x_o2, km, ko, k]
      exact k2
    refine ⟨M', ?_, t1, t2, t3⟩
    rw [r_ent (show e_rok 176 [192, p] = true from decide_eq_true r_ref)]
    show e_tv E_C (E_V 176) e_t176_0 [192, p, 0] M = _
    unfold e_t176_0
    simp [zq_a, zq_b, zq_c, zq_d, zq_e, zq_f, zq_g, zq_h, zq_i, zq_j, zq_k, zq_l, zq_m, zq_n, zq_o, zq_p, zq_q, zq_r, zq_s, zq_t, zq_u, zq_v, zq_w, zq_x, zq_y, zq_z, zq_A, zq_B, zq_C, zq_D, zq_E, zq_F, zq_G, zq_H, zq_I, zq_J, zq_K, zq_L, ↓zq_M, ↓zq_N, ↓zq_O, ↓zq_P, ↓zq_Q, ↓zq_R, zq_S, zq_T, zq_U, zq_V, zq_W, zq_X, zq_Y, zq_Z, zq_0, zq_1, zq_2, zq_3, zq_4, zq_5, ↓zq_6, ↓zq_7, ↓zq_8, ↓zq_9, ↓zq_aa, zq_ab, zq_ac, zq_ad, zq_ae, zq_af, zq_ag, ↓zq_ah, ↓zq_ai, ↓zq_aj, zq_ak, ↓zq_al, ↓zq_am, e_b1, e_b2, x_o1, x_o2, kk, a3, k3]
theorem r_gathers {p : Int} {M : EM} (hJ : r_J M) (hp : 0 ≤ p ∧ p < r_G M 1198) : ∃ M', E_C 175 [192, p] M = some (0, M') ∧ r_J M' ∧ a_fr r_wq M M' ∧ r_cd 48 48 M' := by
  have hW := (r_J_E hJ).2.1
  obtain ⟨a1, a2⟩ := r_qfld (k := 13) (v := 0) (by decide) (by decide) (by decide) hJ
  obtain ⟨b1, b2⟩ := r_qfld (k := 14) (v := 0) (by decide) (by decide) (by decide) a1
  have hg : r_G (e_up (e_up M 192 13 0) 192 14 0) = r_G M := r_q_G (a_fr_tr a2 b2)
  have h13 : (e_up (e_up M 192 13 0) 192 14 0) 192 13 = 0 := (c_up_n (fun hc => absurd hc.2 (by decide))).trans c_up_s
  have h14 : (e_up (e_up M 192 13 0) 192 14 0) 192 14 = 0 := c_up_s
  obtain ⟨M', k, t1, t2, t3⟩ := r_adds b1 (by rw [hg]; exact r_pt_up (r_pt_of hW hp) hW.2.1) ⟨by rw [h13]; decide, by rw [h14]; decide⟩
  refine ⟨M', ?_, t1, a_fr_tr a2 (a_fr_tr b2 t2), t3⟩
  rw [r_ent (show e_rok 175 [192, p] = true from decide_eq_true r_ref)]
  show e_tv E_C (E_V 175) e_t175_0 [192, p] M = _
  unfold e_t175_0
  simp [zq_a, zq_b, zq_c, zq_d, zq_e, zq_f, zq_g, zq_h, zq_i, zq_j, zq_k, zq_l, zq_m, zq_n, zq_o, zq_p, zq_q, zq_r, zq_s, zq_t, zq_u, zq_v, zq_w, zq_x, zq_y, zq_z, zq_A, zq_B, zq_C, zq_D, zq_E, zq_F, zq_G, zq_H, zq_I, zq_J, zq_K, zq_L, ↓zq_M, ↓zq_N, ↓zq_O, ↓zq_P, ↓zq_Q, ↓zq_R, zq_S, zq_T, zq_U, zq_V, zq_W, zq_X, zq_Y, zq_Z, zq_0, zq_1, zq_2, zq_3, zq_4, zq_5, ↓zq_6, ↓zq_7, ↓zq_8, ↓zq_9, ↓zq_aa, zq_ab, zq_ac, zq_ad, zq_ae, zq_af, zq_ag, ↓zq_ah, ↓zq_ai, ↓zq_aj, zq_ak, ↓zq_al, ↓zq_am, e_b1, e_b2, x_o1, x_o2, r_P13, r_P14, k]
theorem r_faults {p : Int} {M : EM} (hJ : r_J M) : r_Q 248 [192, p] M := by
  have hW := (r_J_E hJ).2.1
  by_cases q0 : 0 ≤ p ∧ p < r_G M 1198
  · have ip := r_ip1 hW q0
    obtain ⟨M', k, t1, t2, t3⟩ := r_gathers hJ q0
    refine ⟨e_w (e_w (1 + M' 192 13) + M' 192 14), M', ?_, t1.1, t2, t1.2.2.2.2⟩
    rw [r_ent (show e_rok 248 [192, p] = true from decide_eq_true r_ref)]
    show e_tv E_C (E_V 248) e_t248_0 [192, p] M = _
    unfold e_t248_0
    simp [zq_a, zq_b, zq_c, zq_d, zq_e, zq_f, zq_g, zq_h, zq_i, zq_j, zq_k, zq_l, zq_m, zq_n, zq_o, zq_p, zq_q, zq_r, zq_s, zq_t, zq_u, zq_v, zq_w, zq_x, zq_y, zq_z, zq_A, zq_B, zq_C, zq_D, zq_E, zq_F, zq_G, zq_H, zq_I, zq_J, zq_K, zq_L, ↓zq_M, ↓zq_N, ↓zq_O, ↓zq_P, ↓zq_Q, ↓zq_R, zq_S, zq_T, zq_U, zq_V, zq_W, zq_X, zq_Y, zq_Z, zq_0, zq_1, zq_2, zq_3, zq_4, zq_5, ↓zq_6, ↓zq_7, ↓zq_8, ↓zq_9, ↓zq_aa, zq_ab, zq_ac, zq_ad, zq_ae, zq_af, zq_ag, ↓zq_ah, ↓zq_ai, ↓zq_aj, zq_ak, ↓zq_al, ↓zq_am, e_b1, e_b2, x_o1, x_o2, r_F13, r_F14, ip, k]
  · have ip := r_ip0 hW q0
    refine r_same (r := -1) hJ ?_
    rw [r_ent (show e_rok 248 [192, p] = true from decide_eq_true r_ref)]
    show e_tv E_C (E_V 248) e_t248_0 [192, p] M = _
    unfold e_t248_0
    simp [zq_a, zq_b, zq_c, zq_d, zq_e, zq_f, zq_g, zq_h, zq_i, zq_j, zq_k, zq_l, zq_m, zq_n, zq_o, zq_p, zq_q, zq_r, zq_s, zq_t, zq_u, zq_v, zq_w, zq_x, zq_y, zq_z, zq_A, zq_B, zq_C, zq_D, zq_E, zq_F, zq_G, zq_H, zq_I, zq_J, zq_K, zq_L, ↓zq_M, ↓zq_N, ↓zq_O, ↓zq_P, ↓zq_Q, ↓zq_R, zq_S, zq_T, zq_U, zq_V, zq_W, zq_X, zq_Y, zq_Z, zq_0, zq_1, zq_2, zq_3, zq_4, zq_5, ↓zq_6, ↓zq_7, ↓zq_8, ↓zq_9, ↓zq_aa, zq_ab, zq_ac, zq_ad, zq_ae, zq_af, zq_ag, ↓zq_ah, ↓zq_ai, ↓zq_aj, zq_ak, ↓zq_al, ↓zq_am, e_b1, e_b2, x_o1, x_o2, ip]
theorem r_about {p w : Int} {M : EM} (hJ : r_J M) : r_Q 191 [192, p, w] M := by
  have hW := (r_J_E hJ).2.1
  by_cases q0 : 0 ≤ p ∧ p < r_G M 1198
  · have ip := r_ip1 hW q0
    have h40 := r_40 hW q0
    by_cases q1 : 0 ≤ w ∧ w ≤ 4
    · have i1 := r_in1 (M := M) q1
      obtain ⟨M', k, t1, t2, t3⟩ := r_gathers hJ q0
      have w1 : e_w (28 * p) = 28 * p := a_w_id (by omega) (by omega)
      have w2 : e_w (28 * p + 19) = 28 * p + 19 := a_w_id (by omega) (by omega)
      have w3 : e_w (28 * p + 1) = 28 * p + 1 := a_w_id (by omega) (by omega)
      have l1 : e_op 60 [193, 28 * p + 19] M' = some (r_G M' (28 * p + 19)) := r_rd (by omega) (by omega)
      have l2 : e_op 60 [193, 28 * p + 1] M' = some (r_G M' (28 * p + 1)) := r_rd (by omega) (by omega)
      have kk : E_C 170 [192, p] M' = some (r_G M' (28 * p), M') := r_kind h40
      have km : E_C 171 [192, p] M' = some (r_G M' (28 * p + 2), M') := r_many h40
      have j60 : ∃ r, E_V 191 60 [192, p, w] M' = some (r, M') := by
        refine ⟨r_G M' (28 * p), ?_⟩
        rw [E_V_eq]
        show e_tv E_C (E_V 191) e_t191_60 [192, p, w] M' = _
        unfold e_t191_60
        simp [zq_a, zq_b, zq_c, zq_d, zq_e, zq_f, zq_g, zq_h, zq_i, zq_j, zq_k, zq_l, zq_m, zq_n, zq_o, zq_p, zq_q, zq_r, zq_s, zq_t, zq_u, zq_v, zq_w, zq_x, zq_y, zq_z, zq_A, zq_B, zq_C, zq_D, zq_E, zq_F, zq_G, zq_H, zq_I, zq_J, zq_K, zq_L, ↓zq_M, ↓zq_N, ↓zq_O, ↓zq_P, ↓zq_Q, ↓zq_R, zq_S, zq_T, zq_U, zq_V, zq_W, zq_X, zq_Y, zq_Z, zq_0, zq_1, zq_2, zq_3, zq_4, zq_5, ↓zq_6, ↓zq_7, ↓zq_8, ↓zq_9, ↓zq_aa, zq_ab, zq_ac, zq_ad, zq_ae, zq_af, zq_ag, ↓zq_ah, ↓zq_ai, ↓zq_aj, zq_ak, ↓zq_al, ↓zq_am, e_b1, e_b2, x_o1, x_o2, kk]
      have j66 : ∃ r, E_V 191 66 [192, p, w] M' = some (r, M') := by
        refine ⟨M' 192 13, ?_⟩
        rw [E_V_eq]
        show e_tv E_C (E_V 191) e_t191_66 [192, p, w] M' = _
        unfold e_t191_66
        simp [zq_a, zq_b, zq_c, zq_d, zq_e, zq_f, zq_g, zq_h, zq_i, zq_j, zq_k, zq_l, zq_m, zq_n, zq_o, zq_p, zq_q, zq_r, zq_s, zq_t, zq_u, zq_v, zq_w, zq_x, zq_y, zq_z, zq_A, zq_B, zq_C, zq_D, zq_E, zq_F, zq_G, zq_H, zq_I, zq_J, zq_K, zq_L, ↓zq_M, ↓zq_N, ↓zq_O, ↓zq_P, ↓zq_Q, ↓zq_R, zq_S, zq_T, zq_U, zq_V, zq_W, zq_X, zq_Y, zq_Z, zq_0, zq_1, zq_2, zq_3, zq_4, zq_5, ↓zq_6, ↓zq_7, ↓zq_8, ↓zq_9, ↓zq_aa, zq_ab, zq_ac, zq_ad, zq_ae, zq_af, zq_ag, ↓zq_ah, ↓zq_ai, ↓zq_aj, zq_ak, ↓zq_al, ↓zq_am, e_b1, e_b2, x_o1, x_o2, r_F13]
      have j71 : ∃ r, E_V 191 71 [192, p, w] M' = some (r, M') := by
        refine ⟨M' 192 14, ?_⟩
        rw [E_V_eq]
        show e_tv E_C (E_V 191) e_t191_71 [192, p, w] M' = _
        unfold e_t191_71
        simp [zq_a, zq_b, zq_c, zq_d, zq_e, zq_f, zq_g, zq_h, zq_i, zq_j, zq_k, zq_l, zq_m, zq_n, zq_o, zq_p, zq_q, zq_r, zq_s, zq_t, zq_u, zq_v, zq_w, zq_x, zq_y, zq_z, zq_A, zq_B, zq_C, zq_D, zq_E, zq_F, zq_G, zq_H, zq_I, zq_J, zq_K, zq_L, ↓zq_M, ↓zq_N, ↓zq_O, ↓zq_P, ↓zq_Q, ↓zq_R, zq_S, zq_T, zq_U, zq_V, zq_W, zq_X, zq_Y, zq_Z, zq_0, zq_1, zq_2, zq_3, zq_4, zq_5, ↓zq_6, ↓zq_7, ↓zq_8, ↓zq_9, ↓zq_aa, zq_ab, zq_ac, zq_ad, zq_ae, zq_af, zq_ag, ↓zq_ah, ↓zq_ai, ↓zq_aj, zq_ak, ↓zq_al, ↓zq_am, e_b1, e_b2, x_o1, x_o2, r_F14]
      have j76 : ∃ r, E_V 191 76 [192, p, w] M' = some (r, M') := by
        by_cases c : r_G M' (28 * p) = 1
        · refine ⟨r_G M' (28 * p + 19), ?_⟩
          rw [E_V_eq]
          show e_tv E_C (E_V 191) e_t191_76 [192, p, w] M' = _
          unfold e_t191_76
          simp [zq_a, zq_b, zq_c, zq_d, zq_e, zq_f, zq_g, zq_h, zq_i, zq_j, zq_k, zq_l, zq_m, zq_n, zq_o, zq_p, zq_q, zq_r, zq_s, zq_t, zq_u, zq_v, zq_w, zq_x, zq_y, zq_z, zq_A, zq_B, zq_C, zq_D, zq_E, zq_F, zq_G, zq_H, zq_I, zq_J, zq_K, zq_L, ↓zq_M, ↓zq_N, ↓zq_O, ↓zq_P, ↓zq_Q, ↓zq_R, zq_S, zq_T, zq_U, zq_V, zq_W, zq_X, zq_Y, zq_Z, zq_0, zq_1, zq_2, zq_3, zq_4, zq_5, ↓zq_6, ↓zq_7, ↓zq_8, ↓zq_9, ↓zq_aa, zq_ab, zq_ac, zq_ad, zq_ae, zq_af, zq_ag, ↓zq_ah, ↓zq_ai, ↓zq_aj, zq_ak, ↓zq_al, ↓zq_am, e_b1, e_b2, x_o1, x_o2, r_O0, kk, c, w1, w2, l1]
        · refine ⟨r_G M' (28 * p + 2), ?_⟩
          rw [E_V_eq]
          show e_tv E_C (E_V 191) e_t191_76 [192, p, w] M' = _
          unfold e_t191_76
          simp [zq_a, zq_b, zq_c, zq_d, zq_e, zq_f, zq_g, zq_h, zq_i, zq_j, zq_k, zq_l, zq_m, zq_n, zq_o, zq_p, zq_q, zq_r, zq_s, zq_t, zq_u, zq_v, zq_w, zq_x, zq_y, zq_z, zq_A, zq_B, zq_C, zq_D, zq_E, zq_F, zq_G, zq_H, zq_I, zq_J, zq_K, zq_L, ↓zq_M, ↓zq_N, ↓zq_O, ↓zq_P, ↓zq_Q, ↓zq_R, zq_S, zq_T, zq_U, zq_V, zq_W, zq_X, zq_Y, zq_Z, zq_0, zq_1, zq_2, zq_3, zq_4, zq_5, ↓zq_6, ↓zq_7, ↓zq_8, ↓zq_9, ↓zq_aa, zq_ab, zq_ac, zq_ad, zq_ae, zq_af, zq_ag, ↓zq_ah, ↓zq_ai, ↓zq_aj, zq_ak, ↓zq_al, ↓zq_am, e_b1, e_b2, x_o1, x_o2, r_O0, kk, km, c]
      have j106 : ∃ r, E_V 191 106 [192, p, w] M' = some (r, M') := by
        by_cases c : r_G M' (28 * p + 1) = 0
        · refine ⟨-4, ?_⟩
          rw [E_V_eq]
          show e_tv E_C (E_V 191) e_t191_106 [192, p, w] M' = _
          unfold e_t191_106
          simp [zq_a, zq_b, zq_c, zq_d, zq_e, zq_f, zq_g, zq_h, zq_i, zq_j, zq_k, zq_l, zq_m, zq_n, zq_o, zq_p, zq_q, zq_r, zq_s, zq_t, zq_u, zq_v, zq_w, zq_x, zq_y, zq_z, zq_A, zq_B, zq_C, zq_D, zq_E, zq_F, zq_G, zq_H, zq_I, zq_J, zq_K, zq_L, ↓zq_M, ↓zq_N, ↓zq_O, ↓zq_P, ↓zq_Q, ↓zq_R, zq_S, zq_T, zq_U, zq_V, zq_W, zq_X, zq_Y, zq_Z, zq_0, zq_1, zq_2, zq_3, zq_4, zq_5, ↓zq_6, ↓zq_7, ↓zq_8, ↓zq_9, ↓zq_aa, zq_ab, zq_ac, zq_ad, zq_ae, zq_af, zq_ag, ↓zq_ah, ↓zq_ai, ↓zq_aj, zq_ak, ↓zq_al, ↓zq_am, e_b1, e_b2, x_o1, x_o2, r_O0, w1, w3, l2, c]
        · refine ⟨e_w (r_G M' (28 * p + 1) - 1), ?_⟩
          rw [E_V_eq]
          show e_tv E_C (E_V 191) e_t191_106 [192, p, w] M' = _
          unfold e_t191_106
          simp [zq_a, zq_b, zq_c, zq_d, zq_e, zq_f, zq_g, zq_h, zq_i, zq_j, zq_k, zq_l, zq_m, zq_n, zq_o, zq_p, zq_q, zq_r, zq_s, zq_t, zq_u, zq_v, zq_w, zq_x, zq_y, zq_z, zq_A, zq_B, zq_C, zq_D, zq_E, zq_F, zq_G, zq_H, zq_I, zq_J, zq_K, zq_L, ↓zq_M, ↓zq_N, ↓zq_O, ↓zq_P, ↓zq_Q, ↓zq_R, zq_S, zq_T, zq_U, zq_V, zq_W, zq_X, zq_Y, zq_Z, zq_0, zq_1, zq_2, zq_3, zq_4, zq_5, ↓zq_6, ↓zq_7, ↓zq_8, ↓zq_9, ↓zq_aa, zq_ab, zq_ac, zq_ad, zq_ae, zq_af, zq_ag, ↓zq_ah, ↓zq_ai, ↓zq_aj, zq_ak, ↓zq_al, ↓zq_am, e_b1, e_b2, x_o1, x_o2, r_O0, w1, w3, l2, c]
      have h9 : w = 0 ∨ w = 1 ∨ w = 2 ∨ w = 3 ∨ w = 4 := by omega
      rcases h9 with rfl | rfl | rfl | rfl | rfl
      · obtain ⟨r, hj⟩ := j60
        refine ⟨r, M', ?_, t1.1, t2, t1.2.2.2.2⟩
        rw [r_ent (show e_rok 191 [192, p, 0] = true from decide_eq_true r_ref)]
        show e_tv E_C (E_V 191) e_t191_0 [192, p, 0] M = _
        unfold e_t191_0
        simp [zq_a, zq_b, zq_c, zq_d, zq_e, zq_f, zq_g, zq_h, zq_i, zq_j, zq_k, zq_l, zq_m, zq_n, zq_o, zq_p, zq_q, zq_r, zq_s, zq_t, zq_u, zq_v, zq_w, zq_x, zq_y, zq_z, zq_A, zq_B, zq_C, zq_D, zq_E, zq_F, zq_G, zq_H, zq_I, zq_J, zq_K, zq_L, ↓zq_M, ↓zq_N, ↓zq_O, ↓zq_P, ↓zq_Q, ↓zq_R, zq_S, zq_T, zq_U, zq_V, zq_W, zq_X, zq_Y, zq_Z, zq_0, zq_1, zq_2, zq_3, zq_4, zq_5, ↓zq_6, ↓zq_7, ↓zq_8, ↓zq_9, ↓zq_aa, zq_ab, zq_ac, zq_ad, zq_ae, zq_af, zq_ag, ↓zq_ah, ↓zq_ai, ↓zq_aj, zq_ak, ↓zq_al, ↓zq_am, e_b1, e_b2, x_o1, x_o2, e_len, e_nth, ip, i1, k, hj]
      · obtain ⟨r, hj⟩ := j66
        refine ⟨r, M', ?_, t1.1, t2, t1.2.2.2.2⟩
        rw [r_ent (show e_rok 191 [192, p, 1] = true from decide_eq_true r_ref)]
        show e_tv E_C (E_V 191) e_t191_0 [192, p, 1] M = _
        unfold e_t191_0
        simp [zq_a, zq_b, zq_c, zq_d, zq_e, zq_f, zq_g, zq_h, zq_i, zq_j, zq_k, zq_l, zq_m, zq_n, zq_o, zq_p, zq_q, zq_r, zq_s, zq_t, zq_u, zq_v, zq_w, zq_x, zq_y, zq_z, zq_A, zq_B, zq_C, zq_D, zq_E, zq_F, zq_G, zq_H, zq_I, zq_J, zq_K, zq_L, ↓zq_M, ↓zq_N, ↓zq_O, ↓zq_P, ↓zq_Q, ↓zq_R, zq_S, zq_T, zq_U, zq_V, zq_W, zq_X, zq_Y, zq_Z, zq_0, zq_1, zq_2, zq_3, zq_4, zq_5, ↓zq_6, ↓zq_7, ↓zq_8, ↓zq_9, ↓zq_aa, zq_ab, zq_ac, zq_ad, zq_ae, zq_af, zq_ag, ↓zq_ah, ↓zq_ai, ↓zq_aj, zq_ak, ↓zq_al, ↓zq_am, e_b1, e_b2, x_o1, x_o2, e_len, e_nth, ip, i1, k, hj]
      · obtain ⟨r, hj⟩ := j71
        refine ⟨r, M', ?_, t1.1, t2, t1.2.2.2.2⟩
        rw [r_ent (show e_rok 191 [192, p, 2] = true from decide_eq_true r_ref)]
        show e_tv E_C (E_V 191) e_t191_0 [192, p, 2] M = _
        unfold e_t191_0
        simp [zq_a, zq_b, zq_c, zq_d, zq_e, zq_f, zq_g, zq_h, zq_i, zq_j, zq_k, zq_l, zq_m, zq_n, zq_o, zq_p, zq_q, zq_r, zq_s, zq_t, zq_u, zq_v, zq_w, zq_x, zq_y, zq_z, zq_A, zq_B, zq_C, zq_D, zq_E, zq_F, zq_G, zq_H, zq_I, zq_J, zq_K, zq_L, ↓zq_M, ↓zq_N, ↓zq_O, ↓zq_P, ↓zq_Q, ↓zq_R, zq_S, zq_T, zq_U, zq_V, zq_W, zq_X, zq_Y, zq_Z, zq_0, zq_1, zq_2, zq_3, zq_4, zq_5, ↓zq_6, ↓zq_7, ↓zq_8, ↓zq_9, ↓zq_aa, zq_ab, zq_ac, zq_ad, zq_ae, zq_af, zq_ag, ↓zq_ah, ↓zq_ai, ↓zq_aj, zq_ak, ↓zq_al, ↓zq_am, e_b1, e_b2, x_o1, x_o2, e_len, e_nth, ip, i1, k, hj]
      · obtain ⟨r, hj⟩ := j76
        refine ⟨r, M', ?_, t1.1, t2, t1.2.2.2.2⟩
        rw [r_ent (show e_rok 191 [192, p, 3] = true from decide_eq_true r_ref)]
        show e_tv E_C (E_V 191) e_t191_0 [192, p, 3] M = _
        unfold e_t191_0
        simp [zq_a, zq_b, zq_c, zq_d, zq_e, zq_f, zq_g, zq_h, zq_i, zq_j, zq_k, zq_l, zq_m, zq_n, zq_o, zq_p, zq_q, zq_r, zq_s, zq_t, zq_u, zq_v, zq_w, zq_x, zq_y, zq_z, zq_A, zq_B, zq_C, zq_D, zq_E, zq_F, zq_G, zq_H, zq_I, zq_J, zq_K, zq_L, ↓zq_M, ↓zq_N, ↓zq_O, ↓zq_P, ↓zq_Q, ↓zq_R, zq_S, zq_T, zq_U, zq_V, zq_W, zq_X, zq_Y, zq_Z, zq_0, zq_1, zq_2, zq_3, zq_4, zq_5, ↓zq_6, ↓zq_7, ↓zq_8, ↓zq_9, ↓zq_aa, zq_ab, zq_ac, zq_ad, zq_ae, zq_af, zq_ag, ↓zq_ah, ↓zq_ai, ↓zq_aj, zq_ak, ↓zq_al, ↓zq_am, e_b1, e_b2, x_o1, x_o2, e_len, e_nth, ip, i1, k, hj]
      · obtain ⟨r, hj⟩ := j106
        refine ⟨r, M', ?_, t1.1, t2, t1.2.2.2.2⟩
        rw [r_ent (show e_rok 191 [192, p, 4] = true from decide_eq_true r_ref)]
        show e_tv E_C (E_V 191) e_t191_0 [192, p, 4] M = _
        unfold e_t191_0
        simp [zq_a, zq_b, zq_c, zq_d, zq_e, zq_f, zq_g, zq_h, zq_i, zq_j, zq_k, zq_l, zq_m, zq_n, zq_o, zq_p, zq_q, zq_r, zq_s, zq_t, zq_u, zq_v, zq_w, zq_x, zq_y, zq_z, zq_A, zq_B, zq_C, zq_D, zq_E, zq_F, zq_G, zq_H, zq_I, zq_J, zq_K, zq_L, ↓zq_M, ↓zq_N, ↓zq_O, ↓zq_P, ↓zq_Q, ↓zq_R, zq_S, zq_T, zq_U, zq_V, zq_W, zq_X, zq_Y, zq_Z, zq_0, zq_1, zq_2, zq_3, zq_4, zq_5, ↓zq_6, ↓zq_7, ↓zq_8, ↓zq_9, ↓zq_aa, zq_ab, zq_ac, zq_ad, zq_ae, zq_af, zq_ag, ↓zq_ah, ↓zq_ai, ↓zq_aj, zq_ak, ↓zq_al, ↓zq_am, e_b1, e_b2, x_o1, x_o2, e_len, e_nth, ip, i1, k, hj]
    · have i1 := r_in0 (M := M) q1
      refine r_same (r := -1) hJ ?_
      rw [r_ent (show e_rok 191 [192, p, w] = true from decide_eq_true r_ref)]
      show e_tv E_C (E_V 191) e_t191_0 [192, p, w] M = _
      unfold e_t191_0
      simp [zq_a, zq_b, zq_c, zq_d, zq_e, zq_f, zq_g, zq_h, zq_i, zq_j, zq_k, zq_l, zq_m, zq_n, zq_o, zq_p, zq_q, zq_r, zq_s, zq_t, zq_u, zq_v, zq_w, zq_x, zq_y, zq_z, zq_A, zq_B, zq_C, zq_D, zq_E, zq_F, zq_G, zq_H, zq_I, zq_J, zq_K, zq_L, ↓zq_M, ↓zq_N, ↓zq_O, ↓zq_P, ↓zq_Q, ↓zq_R, zq_S, zq_T, zq_U, zq_V, zq_W, zq_X, zq_Y, zq_Z, zq_0, zq_1, zq_2, zq_3, zq_4, zq_5, ↓zq_6, ↓zq_7, ↓zq_8, ↓zq_9, ↓zq_aa, zq_ab, zq_ac, zq_ad, zq_ae, zq_af, zq_ag, ↓zq_ah, ↓zq_ai, ↓zq_aj, zq_ak, ↓zq_al, ↓zq_am, e_b1, e_b2, x_o1, x_o2, ip, i1]
  · have ip := r_ip0 hW q0
    refine r_same (r := -1) hJ ?_
    rw [r_ent (show e_rok 191 [192, p, w] = true from decide_eq_true r_ref)]
    show e_tv E_C (E_V 191) e_t191_0 [192, p, w] M = _
    unfold e_t191_0
    simp [zq_a, zq_b, zq_c, zq_d, zq_e, zq_f, zq_g, zq_h, zq_i, zq_j, zq_k, zq_l, zq_m, zq_n, zq_o, zq_p, zq_q, zq_r, zq_s, zq_t, zq_u, zq_v, zq_w, zq_x, zq_y, zq_z, zq_A, zq_B, zq_C, zq_D, zq_E, zq_F, zq_G, zq_H, zq_I, zq_J, zq_K, zq_L, ↓zq_M, ↓zq_N, ↓zq_O, ↓zq_P, ↓zq_Q, ↓zq_R, zq_S, zq_T, zq_U, zq_V, zq_W, zq_X, zq_Y, zq_Z, zq_0, zq_1, zq_2, zq_3, zq_4, zq_5, ↓zq_6, ↓zq_7, ↓zq_8, ↓zq_9, ↓zq_aa, zq_ab, zq_ac, zq_ad, zq_ae, zq_af, zq_ag, ↓zq_ah, ↓zq_ai, ↓zq_aj, zq_ak, ↓zq_al, ↓zq_am, e_b1, e_b2, x_o1, x_o2, ip]
