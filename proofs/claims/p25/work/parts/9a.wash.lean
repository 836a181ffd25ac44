/-! WASHING by the reference -/
def r_qL : List (Nat × Nat) := [(202, 47), (203, 47), (205, 999), (206, 99), (207, 1023), (208, 1023), (209, 799), (210, 402), (211, 402), (212, 11736)]
theorem r_qL_ok : ∀ q ∈ r_qL, q.1 ≠ 5 ∧ q.1 ≠ e_OUT ∧ a_mi q.1 = [] ∧ (q.1, 0, q.2) ∈ r_wq ∧ q.1 ≠ 192 := by decide +kernel
theorem r_qarr {M : EM} {a n k : Nat} {v : Int} (ha : (a, n) ∈ r_qL) (hk : k ≤ n) (hv : -2147483648 ≤ v ∧ v ≤ 2147483647) (hJ : r_J M) : r_J (e_up M a k v) ∧ a_fr r_wq M (e_up M a k v) := by
  obtain ⟨h1, h2, h3, h4, h5⟩ := r_qL_ok _ ha
  have hf : a_fr r_wq M (e_up M a k v) := fun b j hw => c_up_n (fun hc => hw _ h4 ⟨hc.1.symm, Nat.zero_le _, by
    have := hc.2
    show j ≤ n
    omega⟩)
  have hM := r_up (v := v) (k := k) h1 h2 h3 hv hJ.1
  exact ⟨r_J_q hJ hM hf (by rw [c_up_n (fun hc => h5 hc.1.symm)]; exact hJ.2.2.2.2), hf⟩
theorem r_qfld {M : EM} {k : Nat} {v : Int} (hk : 10 ≤ k ∧ k ≤ 35) (hk2 : k ≠ 20) (hv : -2147483648 ≤ v ∧ v ≤ 2147483647) (hJ : r_J M) : r_J (e_up M 192 k v) ∧ a_fr r_wq M (e_up M 192 k v) := by
  obtain ⟨f1, f2, f3⟩ := r_fup (v := v) hk hv hJ.1
  exact ⟨r_J_q hJ f1 f2 ((r_up20 hk2).trans hJ.2.2.2.2), f2⟩
theorem r_rd8 {a : Int} {d : Int} {M : EM} (hd : 0 ≤ d ∧ d ≤ 7) : e_op 60 [197, d] M = some (M 197 d.toNat) := (r_isD d M hd).2.2.1
theorem r_rdE {i : Int} {M : EM} (h0 : 0 ≤ i) (hi : i < 960) : e_op 60 [198, i] M = some (M 198 i.toNat) := r_ld (n := 960) (by decide) (by decide +kernel) (by decide +kernel) h0 hi
theorem r_rdA {a : Int} {i : Int} {n : Nat} {M : EM} (h : (a.toNat, n) ∈ r_qL) (h8 : 8 ≤ a) (hs : e_sh a.toNat = (100, n + 1)) (h0 : 0 ≤ i) (hi : i ≤ n) : e_op 60 [a, i] M = some (M a.toNat i.toNat) := r_ld (n := n + 1) h8 (by
  have key : ∀ q ∈ r_qL, q.1 < e_N := by decide +kernel
  exact key _ h) hs h0 (by omega)
theorem r_stA {a : Int} {i v : Int} {n : Nat} {M : EM} (h : (a.toNat, n) ∈ r_qL) (h8 : 8 ≤ a) (hs : e_sh a.toNat = (100, n + 1)) (h0 : 0 ≤ i) (hi : i ≤ n) : e_st 100 [a, i, v] M = some (e_up M a.toNat i.toNat v) := r_st (n := n + 1) h8 (by
  have key : ∀ q ∈ r_qL, q.1 < e_N := by decide +kernel
  exact key _ h) hs h0 (by omega)
theorem r_ww_loop {d t x3 : Int} {M : EM} (hI : r_I M) (hd : 0 ≤ d ∧ d ≤ 7) : ∀ (m : Nat) (x4 : Int), (120 - x4).toNat ≤ m → 0 ≤ x4 → ∃ r, E_V 232 59 [192, d, t, x3, x4] M = some (r, M) ∧ (r = 0 ∨ r = -13) := by
  have hz := hI d.toNat (by omega)
  have ls := (r_isD d M hd).2.2.1
  have hend : ∀ x4, ¬ (x4 < M 197 d.toNat) → ∃ r, E_V 232 59 [192, d, t, x3, x4] M = some (r, M) ∧ (r = 0 ∨ r = -13) := by
    intro x4 q
    refine ⟨0, ?_, Or.inl rfl⟩
    rw [E_V_eq]
    show e_tv E_C (E_V 232) e_t232_59 [192, d, t, x3, x4] M = _
    unfold e_t232_59
    simp [zq_a, zq_b, zq_c, zq_d, zq_e, zq_f, zq_g, zq_h, zq_i, zq_j, zq_k, zq_l, zq_m, zq_n, zq_o, zq_p, zq_q, zq_r, zq_s, zq_t, zq_u, zq_v, zq_w, zq_x, zq_y, zq_z, zq_A, zq_B, zq_C, zq_D, zq_E, zq_F, zq_G, zq_H, zq_I, zq_J, zq_K, zq_L, ↓zq_M, ↓zq_N, ↓zq_O, ↓zq_P, ↓zq_Q, ↓zq_R, zq_S, zq_T, zq_U, zq_V, zq_W, zq_X, zq_Y, zq_Z, zq_0, zq_1, zq_2, zq_3, zq_4, zq_5, ↓zq_6, ↓zq_7, ↓zq_8, ↓zq_9, ↓zq_aa, zq_ab, zq_ac, zq_ad, zq_ae, zq_af, zq_ag, ↓zq_ah, ↓zq_ai, ↓zq_aj, zq_ak, ↓zq_al, ↓zq_am, e_b1, e_b2, x_o1, x_o2, r_O4, ls, q]
  intro m
  induction m with
  | zero => intro x4 hm h0; exact hend x4 (by omega)
  | succ m ih =>
    intro x4 hm h0
    rcases x_lt x4 (M 197 d.toNat) with ⟨q, q_n⟩ | ⟨q, q_n⟩
    · have w1 : e_w (120 * d) = 120 * d := a_w_id (by omega) (by omega)
      have w2 : e_w (120 * d + x4) = 120 * d + x4 := a_w_id (by omega) (by omega)
      have w4 : e_w (x4 + 1) = x4 + 1 := a_w_id (by omega) (by omega)
      have le := r_rdE (i := 120 * d + x4) (M := M) (by omega) (by omega)
      by_cases c : 0 ≤ M 198 (120 * d + x4).toNat ∧ M 198 (120 * d + x4).toNat ≤ 999
      · have i1 := r_in1 (M := M) c
        obtain ⟨r, k, hr⟩ := ih (x4 + 1) (by omega) (by omega)
        refine ⟨r, ?_, hr⟩
        rw [E_V_eq]
        show e_tv E_C (E_V 232) e_t232_59 [192, d, t, x3, x4] M = _
        unfold e_t232_59
        simp [zq_a, zq_b, zq_c, zq_d, zq_e, zq_f, zq_g, zq_h, zq_i, zq_j, zq_k, zq_l, zq_m, zq_n, zq_o, zq_p, zq_q, zq_r, zq_s, zq_t, zq_u, zq_v, zq_w, zq_x, zq_y, zq_z, zq_A, zq_B, zq_C, zq_D, zq_E, zq_F, zq_G, zq_H, zq_I, zq_J, zq_K, zq_L, ↓zq_M, ↓zq_N, ↓zq_O, ↓zq_P, ↓zq_Q, ↓zq_R, zq_S, zq_T, zq_U, zq_V, zq_W, zq_X, zq_Y, zq_Z, zq_0, zq_1, zq_2, zq_3, zq_4, zq_5, ↓zq_6, ↓zq_7, ↓zq_8, ↓zq_9, ↓zq_aa, zq_ab, zq_ac, zq_ad, zq_ae, zq_af, zq_ag, ↓zq_ah, ↓zq_ai, ↓zq_aj, zq_ak, ↓zq_al, ↓zq_am, e_b1, e_b2, x_o1, x_o2, r_O4, r_O5, ls, q, q_n, w1, w2, w4, le, i1, k]
      · have i1 := r_in0 (M := M) c
        refine ⟨-13, ?_, Or.inr rfl⟩
        rw [E_V_eq]
        show e_tv E_C (E_V 232) e_t232_59 [192, d, t, x3, x4] M = _
        unfold e_t232_59
        simp [zq_a, zq_b, zq_c, zq_d, zq_e, zq_f, zq_g, zq_h, zq_i, zq_j, zq_k, zq_l, zq_m, zq_n, zq_o, zq_p, zq_q, zq_r, zq_s, zq_t, zq_u, zq_v, zq_w, zq_x, zq_y, zq_z, zq_A, zq_B, zq_C, zq_D, zq_E, zq_F, zq_G, zq_H, zq_I, zq_J, zq_K, zq_L, ↓zq_M, ↓zq_N, ↓zq_O, ↓zq_P, ↓zq_Q, ↓zq_R, zq_S, zq_T, zq_U, zq_V, zq_W, zq_X, zq_Y, zq_Z, zq_0, zq_1, zq_2, zq_3, zq_4, zq_5, ↓zq_6, ↓zq_7, ↓zq_8, ↓zq_9, ↓zq_aa, zq_ab, zq_ac, zq_ad, zq_ae, zq_af, zq_ag, ↓zq_ah, ↓zq_ai, ↓zq_aj, zq_ak, ↓zq_al, ↓zq_am, e_b1, e_b2, x_o1, x_o2, r_O4, r_O5, ls, q, q_n, w1, w2, le, i1]
    · exact hend x4 q
theorem r_wrongWash {d t : Int} {M : EM} (hI : r_I M) : ∃ r, E_C 232 [192, d, t] M = some (r, M) ∧ (r = 0 → (0 ≤ d ∧ d ≤ 7) ∧ 1 ≤ M 197 d.toNat ∧ M 197 d.toNat ≤ 30) := by
  have ks := r_isShelf d M
  by_cases q0 : 0 ≤ d ∧ d ≤ 7
  · rw [if_pos q0] at ks
    have ls := (r_isD d M q0).2.2.1
    rcases x_le 0 t with ⟨q1, q1_n⟩ | ⟨q1, q1_n⟩
    · rcases x_lt 20 (e_w (t.tdiv 10000)) with ⟨q2, q2_n⟩ | ⟨q2, q2_n⟩
      · refine ⟨-1, ?_, fun h => absurd h (by decide)⟩
        rw [r_ent (show e_rok 232 [192, d, t] = true from decide_eq_true r_ref)]
        show e_tv E_C (E_V 232) e_t232_0 [192, d, t, 0, 0] M = _
        unfold e_t232_0
        simp [zq_a, zq_b, zq_c, zq_d, zq_e, zq_f, zq_g, zq_h, zq_i, zq_j, zq_k, zq_l, zq_m, zq_n, zq_o, zq_p, zq_q, zq_r, zq_s, zq_t, zq_u, zq_v, zq_w, zq_x, zq_y, zq_z, zq_A, zq_B, zq_C, zq_D, zq_E, zq_F, zq_G, zq_H, zq_I, zq_J, zq_K, zq_L, ↓zq_M, ↓zq_N, ↓zq_O, ↓zq_P, ↓zq_Q, ↓zq_R, zq_S, zq_T, zq_U, zq_V, zq_W, zq_X, zq_Y, zq_Z, zq_0, zq_1, zq_2, zq_3, zq_4, zq_5, ↓zq_6, ↓zq_7, ↓zq_8, ↓zq_9, ↓zq_aa, zq_ab, zq_ac, zq_ad, zq_ae, zq_af, zq_ag, ↓zq_ah, ↓zq_ai, ↓zq_aj, zq_ak, ↓zq_al, ↓zq_am, e_b1, e_b2, x_o1, x_o2, ks, q1, q1_n, q2, q2_n]
      · obtain ⟨n, kn, -, hn⟩ := r_wrongRow d 1 M
        by_cases q3 : n = 0
        · subst q3
          by_cases q4 : 1 ≤ M 197 d.toNat ∧ M 197 d.toNat ≤ 30
          · have i1 := r_in1 (M := M) q4
            obtain ⟨r, k, hr⟩ := r_ww_loop (t := t) (x3 := 0) hI q0 120 0 (by decide) (by decide)
            refine ⟨r, ?_, fun _ => ⟨q0, q4⟩⟩
            rw [r_ent (show e_rok 232 [192, d, t] = true from decide_eq_true r_ref)]
            show e_tv E_C (E_V 232) e_t232_0 [192, d, t, 0, 0] M = _
            unfold e_t232_0
            simp [zq_a, zq_b, zq_c, zq_d, zq_e, zq_f, zq_g, zq_h, zq_i, zq_j, zq_k, zq_l, zq_m, zq_n, zq_o, zq_p, zq_q, zq_r, zq_s, zq_t, zq_u, zq_v, zq_w, zq_x, zq_y, zq_z, zq_A, zq_B, zq_C, zq_D, zq_E, zq_F, zq_G, zq_H, zq_I, zq_J, zq_K, zq_L, ↓zq_M, ↓zq_N, ↓zq_O, ↓zq_P, ↓zq_Q, ↓zq_R, zq_S, zq_T, zq_U, zq_V, zq_W, zq_X, zq_Y, zq_Z, zq_0, zq_1, zq_2, zq_3, zq_4, zq_5, ↓zq_6, ↓zq_7, ↓zq_8, ↓zq_9, ↓zq_aa, zq_ab, zq_ac, zq_ad, zq_ae, zq_af, zq_ag, ↓zq_ah, ↓zq_ai, ↓zq_aj, zq_ak, ↓zq_al, ↓zq_am, e_b1, e_b2, x_o1, x_o2, r_O4, ks, q1, q1_n, q2, q2_n, kn, ls, i1, k]
          · have i1 := r_in0 (M := M) q4
            refine ⟨-13, ?_, fun h => absurd h (by decide)⟩
            rw [r_ent (show e_rok 232 [192, d, t] = true from decide_eq_true r_ref)]
            show e_tv E_C (E_V 232) e_t232_0 [192, d, t, 0, 0] M = _
            unfold e_t232_0
            simp [zq_a, zq_b, zq_c, zq_d, zq_e, zq_f, zq_g, zq_h, zq_i, zq_j, zq_k, zq_l, zq_m, zq_n, zq_o, zq_p, zq_q, zq_r, zq_s, zq_t, zq_u, zq_v, zq_w, zq_x, zq_y, zq_z, zq_A, zq_B, zq_C, zq_D, zq_E, zq_F, zq_G, zq_H, zq_I, zq_J, zq_K, zq_L, ↓zq_M, ↓zq_N, ↓zq_O, ↓zq_P, ↓zq_Q, ↓zq_R, zq_S, zq_T, zq_U, zq_V, zq_W, zq_X, zq_Y, zq_Z, zq_0, zq_1, zq_2, zq_3, zq_4, zq_5, ↓zq_6, ↓zq_7, ↓zq_8, ↓zq_9, ↓zq_aa, zq_ab, zq_ac, zq_ad, zq_ae, zq_af, zq_ag, ↓zq_ah, ↓zq_ai, ↓zq_aj, zq_ak, ↓zq_al, ↓zq_am, e_b1, e_b2, x_o1, x_o2, r_O4, ks, q1, q1_n, q2, q2_n, kn, ls, i1]
        · refine ⟨n, ?_, fun h => absurd h q3⟩
          rw [r_ent (show e_rok 232 [192, d, t] = true from decide_eq_true r_ref)]
          show e_tv E_C (E_V 232) e_t232_0 [192, d, t, 0, 0] M = _
          unfold e_t232_0
          simp [zq_a, zq_b, zq_c, zq_d, zq_e, zq_f, zq_g, zq_h, zq_i, zq_j, zq_k, zq_l, zq_m, zq_n, zq_o, zq_p, zq_q, zq_r, zq_s, zq_t, zq_u, zq_v, zq_w, zq_x, zq_y, zq_z, zq_A, zq_B, zq_C, zq_D, zq_E, zq_F, zq_G, zq_H, zq_I, zq_J, zq_K, zq_L, ↓zq_M, ↓zq_N, ↓zq_O, ↓zq_P, ↓zq_Q, ↓zq_R, zq_S, zq_T, zq_U, zq_V, zq_W, zq_X, zq_Y, zq_Z, zq_0, zq_1, zq_2, zq_3, zq_4, zq_5, ↓zq_6, ↓zq_7, ↓zq_8, ↓zq_9, ↓zq_aa, zq_ab, zq_ac, zq_ad, zq_ae, zq_af, zq_ag, ↓zq_ah, ↓zq_ai, ↓zq_aj, zq_ak, ↓zq_al, ↓zq_am, e_b1, e_b2, x_o1, x_o2, ks, q1, q1_n, q2, q2_n, kn, q3]
    · refine ⟨-1, ?_, fun h => absurd h (by decide)⟩
      rw [r_ent (show e_rok 232 [192, d, t] = true from decide_eq_true r_ref)]
      show e_tv E_C (E_V 232) e_t232_0 [192, d, t, 0, 0] M = _
      unfold e_t232_0
      simp [zq_a, zq_b, zq_c, zq_d, zq_e, zq_f, zq_g, zq_h, zq_i, zq_j, zq_k, zq_l, zq_m, zq_n, zq_o, zq_p, zq_q, zq_r, zq_s, zq_t, zq_u, zq_v, zq_w, zq_x, zq_y, zq_z, zq_A, zq_B, zq_C, zq_D, zq_E, zq_F, zq_G, zq_H, zq_I, zq_J, zq_K, zq_L, ↓zq_M, ↓zq_N, ↓zq_O, ↓zq_P, ↓zq_Q, ↓zq_R, zq_S, zq_T, zq_U, zq_V, zq_W, zq_X, zq_Y, zq_Z, zq_0, zq_1, zq_2, zq_3, zq_4, zq_5, ↓zq_6, ↓zq_7, ↓zq_8, ↓zq_9, ↓zq_aa, zq_ab, zq_ac, zq_ad, zq_ae, zq_af, zq_ag, ↓zq_ah, ↓zq_ai, ↓zq_aj, zq_ak, ↓zq_al, ↓zq_am, e_b1, e_b2, x_o1, x_o2, ks, q1, q1_n]
  · rw [if_neg q0] at ks
    refine ⟨-1, ?_, fun h => absurd h (by decide)⟩
    rw [r_ent (show e_rok 232 [192, d, t] = true from decide_eq_true r_ref)]
    show e_tv E_C (E_V 232) e_t232_0 [192, d, t, 0, 0] M = _
    unfold e_t232_0
    simp [zq_a, zq_b, zq_c, zq_d, zq_e, zq_f, zq_g, zq_h, zq_i, zq_j, zq_k, zq_l, zq_m, zq_n, zq_o, zq_p, zq_q, zq_r, zq_s, zq_t, zq_u, zq_v, zq_w, zq_x, zq_y, zq_z, zq_A, zq_B, zq_C, zq_D, zq_E, zq_F, zq_G, zq_H, zq_I, zq_J, zq_K, zq_L, ↓zq_M, ↓zq_N, ↓zq_O, ↓zq_P, ↓zq_Q, ↓zq_R, zq_S, zq_T, zq_U, zq_V, zq_W, zq_X, zq_Y, zq_Z, zq_0, zq_1, zq_2, zq_3, zq_4, zq_5, ↓zq_6, ↓zq_7, ↓zq_8, ↓zq_9, ↓zq_aa, zq_ab, zq_ac, zq_ad, zq_ae, zq_af, zq_ag, ↓zq_ah, ↓zq_ai, ↓zq_aj, zq_ak, ↓zq_al, ↓zq_am, e_b1, e_b2, x_o1, x_o2, ks]
theorem r_lesser {a b : Int} {M : EM} : E_C 174 [a, b] M = some (if a < b then a else b, M) := by
  rw [r_ent (show e_rok 174 [a, b] = true from rfl)]
  show e_tv E_C (E_V 174) e_t174_0 [a, b] M = _
  unfold e_t174_0
  rcases x_lt a b with ⟨c, c_n⟩ | ⟨c, c_n⟩
  · simp [zq_a, zq_b, zq_c, zq_d, zq_e, zq_f, zq_g, zq_h, zq_i, zq_j, zq_k, zq_l, zq_m, zq_n, zq_o, zq_p, zq_q, zq_r, zq_s, zq_t, zq_u, zq_v, zq_w, zq_x, zq_y, zq_z, zq_A, zq_B, zq_C, zq_D, zq_E, zq_F, zq_G, zq_H, zq_I, zq_J, zq_K, zq_L, ↓zq_M, ↓zq_N, ↓zq_O, ↓zq_P, ↓zq_Q, ↓zq_R, zq_S, zq_T, zq_U, zq_V, zq_W, zq_X, zq_Y, zq_Z, zq_0, zq_1, zq_2, zq_3, zq_4, zq_5, ↓zq_6, ↓zq_7, ↓zq_8, ↓zq_9, ↓zq_aa, zq_ab, zq_ac, zq_ad, zq_ae, zq_af, zq_ag, ↓zq_ah, ↓zq_ai, ↓zq_aj, zq_ak, ↓zq_al, ↓zq_am, e_b1, e_b2, x_o1, x_o2, c, c_n]
  · simp [zq_a, zq_b, zq_c, zq_d, zq_e, zq_f, zq_g, zq_h, zq_i, zq_j, zq_k, zq_l, zq_m, zq_n, zq_o, zq_p, zq_q, zq_r, zq_s, zq_t, zq_u, zq_v, zq_w, zq_x, zq_y, zq_z, zq_A, zq_B, zq_C, zq_D, zq_E, zq_F, zq_G, zq_H, zq_I, zq_J, zq_K, zq_L, ↓zq_M, ↓zq_N, ↓zq_O, ↓zq_P, ↓zq_Q, ↓zq_R, zq_S, zq_T, zq_U, zq_V, zq_W, zq_X, zq_Y, zq_Z, zq_0, zq_1, zq_2, zq_3, zq_4, zq_5, ↓zq_6, ↓zq_7, ↓zq_8, ↓zq_9, ↓zq_aa, zq_ab, zq_ac, zq_ad, zq_ae, zq_af, zq_ag, ↓zq_ah, ↓zq_ai, ↓zq_aj, zq_ak, ↓zq_al, ↓zq_am, e_b1, e_b2, x_o1, x_o2, c, c_n]
theorem r_gain {k s : Int} {M : EM} (hb : 0 ≤ M 192 35 ∧ M 192 35 ≤ 840) (hk : 0 ≤ k ∧ k < 120) : r_P 233 [192, k, s] M := by
  have w1 : e_w (M 192 35 + k) = M 192 35 + k := a_w_id (by omega) (by omega)
  have le := r_rdE (i := M 192 35 + k) (M := M) (by omega) (by omega)
  have kl := r_lesser (a := 50) (b := e_w (M 192 33 * s)) (M := M)
  generalize (if 50 < e_w (M 192 33 * s) then (50 : Int) else e_w (M 192 33 * s)) = z at kl
  refine ⟨e_w ((e_w (M 198 (M 192 35 + k).toNat * e_w (100 - z))).tdiv 100), ?_, a_w _⟩
  rw [r_ent (show e_rok 233 [192, k, s] = true from decide_eq_true r_ref)]
  show e_tv E_C (E_V 233) e_t233_0 [192, k, s] M = _
  unfold e_t233_0
  simp [zq_a, zq_b, zq_c, zq_d, zq_e, zq_f, zq_g, zq_h, zq_i, zq_j, zq_k, zq_l, zq_m, zq_n, zq_o, zq_p, zq_q, zq_r, zq_s, zq_t, zq_u, zq_v, zq_w, zq_x, zq_y, zq_z, zq_A, zq_B, zq_C, zq_D, zq_E, zq_F, zq_G, zq_H, zq_I, zq_J, zq_K, zq_L, ↓zq_M, ↓zq_N, ↓zq_O, ↓zq_P, ↓zq_Q, ↓zq_R, zq_S, zq_T, zq_U, zq_V, zq_W, zq_X, zq_Y, zq_Z, zq_0, zq_1, zq_2, zq_3, zq_4, zq_5, ↓zq_6, ↓zq_7, ↓zq_8, ↓zq_9, ↓zq_aa, zq_ab, zq_ac, zq_ad, zq_ae, zq_af, zq_ag, ↓zq_ah, ↓zq_ai, ↓zq_aj, zq_ak, ↓zq_al, ↓zq_am, e_b1, e_b2, x_o1, x_o2, r_O5, r_F33, r_F35, w1, le, kl]
theorem r_pays {k s : Int} {M : EM} (hb : 0 ≤ M 192 35 ∧ M 192 35 ≤ 840) (hk : 0 ≤ k ∧ k < 30) (hs : 0 ≤ s ∧ s ≤ 30) : ∃ r, E_C 234 [192, k, s] M = some (r, M) ∧ (r = 0 ∨ r = 1) := by
  have w1 : e_w (k + 1) = k + 1 := a_w_id (by omega) (by omega)
  have w2 : e_w (32 * (k + 1)) = 32 * (k + 1) := a_w_id (by omega) (by omega)
  have w3 : e_w (32 * (k + 1) + s) = 32 * (k + 1) + s := a_w_id (by omega) (by omega)
  have w4 : e_w (32 * (k + 1) + s + 1) = 32 * (k + 1) + s + 1 := a_w_id (by omega) (by omega)
  have w5 : e_w (32 * (k + 1) + 1) = 32 * (k + 1) + 1 := a_w_id (by omega) (by omega)
  obtain ⟨a, ka, -⟩ := r_gain (k := k) (s := s) hb ⟨hk.1, by omega⟩
  obtain ⟨b, kb, -⟩ := r_gain (k := k) (s := 0) hb ⟨hk.1, by omega⟩
  have l1 : e_op 60 [207, 32 * (k + 1) + s + 1] M = some (M 207 (32 * (k + 1) + s + 1).toNat) := r_rdA (n := 1023) (by decide) (by decide) (by decide +kernel) (by omega) (by omega)
  have l2 : e_op 60 [207, 32 * (k + 1) + 1] M = some (M 207 (32 * (k + 1) + 1).toNat) := r_rdA (n := 1023) (by decide) (by decide) (by decide +kernel) (by omega) (by omega)
  have l3 : e_op 60 [208, 32 * (k + 1) + s + 1] M = some (M 208 (32 * (k + 1) + s + 1).toNat) := r_rdA (n := 1023) (by decide) (by decide) (by decide +kernel) (by omega) (by omega)
  have l4 : e_op 60 [208, 32 * (k + 1) + 1] M = some (M 208 (32 * (k + 1) + 1).toNat) := r_rdA (n := 1023) (by decide) (by decide) (by decide +kernel) (by omega) (by omega)
  generalize hx : e_w (a + M 207 (32 * (k + 1) + s + 1).toNat) = x
  generalize hy : e_w (e_w (b - M 192 34) + M 207 (32 * (k + 1) + 1).toNat) = y
  rcases x_le y x with ⟨c1, c1_n⟩ | ⟨c1, c1_n⟩
  · by_cases c2 : y = x
    · rcases x_lt (e_w (M 208 (32 * (k + 1) + 1).toNat + 1)) (M 208 (32 * (k + 1) + s + 1).toNat) with ⟨c3, c3_n⟩ | ⟨c3, c3_n⟩
      · refine ⟨1, ?_, Or.inr rfl⟩
        rw [r_ent (show e_rok 234 [192, k, s] = true from decide_eq_true r_ref)]
        show e_tv E_C (E_V 234) e_t234_0 [192, k, s, 0, 0] M = _
        unfold e_t234_0
        simp [zq_a, zq_b, zq_c, zq_d, zq_e, zq_f, zq_g, zq_h, zq_i, zq_j, zq_k, zq_l, zq_m, zq_n, zq_o, zq_p, zq_q, zq_r, zq_s, zq_t, zq_u, zq_v, zq_w, zq_x, zq_y, zq_z, zq_A, zq_B, zq_C, zq_D, zq_E, zq_F, zq_G, zq_H, zq_I, zq_J, zq_K, zq_L, ↓zq_M, ↓zq_N, ↓zq_O, ↓zq_P, ↓zq_Q, ↓zq_R, zq_S, zq_T, zq_U, zq_V, zq_W, zq_X, zq_Y, zq_Z, zq_0, zq_1, zq_2, zq_3, zq_4, zq_5, ↓zq_6, ↓zq_7, ↓zq_8, ↓zq_9, ↓zq_aa, zq_ab, zq_ac, zq_ad, zq_ae, zq_af, zq_ag, ↓zq_ah, ↓zq_ai, ↓zq_aj, zq_ak, ↓zq_al, ↓zq_am, e_b1, e_b2, x_o1, x_o2, r_O31, r_O32, r_F34, w1, w2, w3, w4, w5, ka, kb, l1, l2, l3, l4, hx, hy, c2, c3, c3_n]
      · refine ⟨0, ?_, Or.inl rfl⟩
        rw [r_ent (show e_rok 234 [192, k, s] = true from decide_eq_true r_ref)]
        show e_tv E_C (E_V 234) e_t234_0 [192, k, s, 0, 0] M = _
        unfold e_t234_0
        simp [zq_a, zq_b, zq_c, zq_d, zq_e, zq_f, zq_g, zq_h, zq_i, zq_j, zq_k, zq_l, zq_m, zq_n, zq_o, zq_p, zq_q, zq_r, zq_s, zq_t, zq_u, zq_v, zq_w, zq_x, zq_y, zq_z, zq_A, zq_B, zq_C, zq_D, zq_E, zq_F, zq_G, zq_H, zq_I, zq_J, zq_K, zq_L, ↓zq_M, ↓zq_N, ↓zq_O, ↓zq_P, ↓zq_Q, ↓zq_R, zq_S, zq_T, zq_U, zq_V, zq_W, zq_X, zq_Y, zq_Z, zq_0, zq_1, zq_2, zq_3, zq_4, zq_5, ↓zq_6, ↓zq_7, ↓zq_8, ↓zq_9, ↓zq_aa, zq_ab, zq_ac, zq_ad, zq_ae, zq_af, zq_ag, ↓zq_ah, ↓zq_ai, ↓zq_aj, zq_ak, ↓zq_al, ↓zq_am, e_b1, e_b2, x_o1, x_o2, r_O31, r_O32, r_F34, w1, w2, w3, w4, w5, ka, kb, l1, l2, l3, l4, hx, hy, c2, c3, c3_n]
    · refine ⟨0, ?_, Or.inl rfl⟩
      rw [r_ent (show e_rok 234 [192, k, s] = true from decide_eq_true r_ref)]
      show e_tv E_C (E_V 234) e_t234_0 [192, k, s, 0, 0] M = _
      unfold e_t234_0
      simp [zq_a, zq_b, zq_c, zq_d, zq_e, zq_f, zq_g, zq_h, zq_i, zq_j, zq_k, zq_l, zq_m, zq_n, zq_o, zq_p, zq_q, zq_r, zq_s, zq_t, zq_u, zq_v, zq_w, zq_x, zq_y, zq_z, zq_A, zq_B, zq_C, zq_D, zq_E, zq_F, zq_G, zq_H, zq_I, zq_J, zq_K, zq_L, ↓zq_M, ↓zq_N, ↓zq_O, ↓zq_P, ↓zq_Q, ↓zq_R, zq_S, zq_T, zq_U, zq_V, zq_W, zq_X, zq_Y, zq_Z, zq_0, zq_1, zq_2, zq_3, zq_4, zq_5, ↓zq_6, ↓zq_7, ↓zq_8, ↓zq_9, ↓zq_aa, zq_ab, zq_ac, zq_ad, zq_ae, zq_af, zq_ag, ↓zq_ah, ↓zq_ai, ↓zq_aj, zq_ak, ↓zq_al, ↓zq_am, e_b1, e_b2, x_o1, x_o2, r_O31, r_O32, r_F34, w1, w2, w3, w4, w5, ka, kb, l1, l2, l3, l4, hx, hy, c1, c1_n, c2]
  · refine ⟨1, ?_, Or.inr rfl⟩
    rw [r_ent (show e_rok 234 [192, k, s] = true from decide_eq_true r_ref)]
    show e_tv E_C (E_V 234) e_t234_0 [192, k, s, 0, 0] M = _
    unfold e_t234_0
    simp [zq_a, zq_b, zq_c, zq_d, zq_e, zq_f, zq_g, zq_h, zq_i, zq_j, zq_k, zq_l, zq_m, zq_n, zq_o, zq_p, zq_q, zq_r, zq_s, zq_t, zq_u, zq_v, zq_w, zq_x, zq_y, zq_z, zq_A, zq_B, zq_C, zq_D, zq_E, zq_F, zq_G, zq_H, zq_I, zq_J, zq_K, zq_L, ↓zq_M, ↓zq_N, ↓zq_O, ↓zq_P, ↓zq_Q, ↓zq_R, zq_S, zq_T, zq_U, zq_V, zq_W, zq_X, zq_Y, zq_Z, zq_0, zq_1, zq_2, zq_3, zq_4, zq_5, ↓zq_6, ↓zq_7, ↓zq_8, ↓zq_9, ↓zq_aa, zq_ab, zq_ac, zq_ad, zq_ae, zq_af, zq_ag, ↓zq_ah, ↓zq_ai, ↓zq_aj, zq_ak, ↓zq_al, ↓zq_am, e_b1, e_b2, x_o1, x_o2, r_O31, r_O32, r_F34, w1, w2, w3, w4, w5, ka, kb, l1, l2, l3, l4, hx, hy, c1, c1_n]
/-- while washing days are planned -/
def r_wv (d : Int) (M : EM) : Prop := r_J M ∧ M 192 35 = 120 * d ∧ 1 ≤ M 197 d.toNat ∧ M 197 d.toNat ≤ 30
theorem r_wv_a {d : Int} {M : EM} {a k : Nat} {v : Int} (h : a = 207 ∨ a = 208) (hk : k ≤ 1023) (hv : -2147483648 ≤ v ∧ v ≤ 2147483647) (hw : r_wv d M) : r_wv d (e_up M a k v) ∧ a_fr r_wq M (e_up M a k v) := by
  obtain ⟨h1, h2, h3⟩ := hw
  have ha : (a, 1023) ∈ r_qL := by rcases h with rfl | rfl <;> decide
  obtain ⟨q1, q2⟩ := r_qarr ha hk hv h1
  refine ⟨⟨q1, ?_, ?_⟩, q2⟩
  · rw [c_up_n (fun hc => by omega)]; exact h2
  · rw [r_wq_out q2 (by omega)]; exact h3
theorem r_fw_d {d t : Int} (hd : 0 ≤ d ∧ d ≤ 7) {x3 : Int} (h3 : 0 ≤ x3 ∧ x3 < 30) (H : ∀ M, r_wv d M → ∀ x4 x5 x6, ∃ M', E_V 235 83 [192, d, t, x3 - 1, x4, x5, x6] M = some (0, M') ∧ r_wv d M' ∧ a_fr r_wq M M') : ∀ (m : Nat) (x4 x5 x6 : Int) (M : EM), r_wv d M → (x3 + 1 - x4).toNat ≤ m → 0 ≤ x4 → ∃ M', E_V 235 90 [192, d, t, x3, x4, x5, x6] M = some (0, M') ∧ r_wv d M' ∧ a_fr r_wq M M' := by
  have w0 : e_w (x3 + -1) = x3 - 1 := a_w_id (by omega) (by omega)
  have hend : ∀ x4 x5 x6 M, r_wv d M → ¬ (x4 ≤ x3) → ∃ M', E_V 235 90 [192, d, t, x3, x4, x5, x6] M = some (0, M') ∧ r_wv d M' ∧ a_fr r_wq M M' := by
    intro x4 x5 x6 M hw q
    obtain ⟨M', k, t1⟩ := H M hw x4 x5 x6
    refine ⟨M', ?_, t1⟩
    rw [E_V_eq]
    show e_tv E_C (E_V 235) e_t235_90 [192, d, t, x3, x4, x5, x6] M = _
    unfold e_t235_90
    simp [zq_a, zq_b, zq_c, zq_d, zq_e, zq_f, zq_g, zq_h, zq_i, zq_j, zq_k, zq_l, zq_m, zq_n, zq_o, zq_p, zq_q, zq_r, zq_s, zq_t, zq_u, zq_v, zq_w, zq_x, zq_y, zq_z, zq_A, zq_B, zq_C, zq_D, zq_E, zq_F, zq_G, zq_H, zq_I, zq_J, zq_K, zq_L, ↓zq_M, ↓zq_N, ↓zq_O, ↓zq_P, ↓zq_Q, ↓zq_R, zq_S, zq_T, zq_U, zq_V, zq_W, zq_X, zq_Y, zq_Z, zq_0, zq_1, zq_2, zq_3, zq_4, zq_5, ↓zq_6, ↓zq_7, ↓zq_8, ↓zq_9, ↓zq_aa, zq_ab, zq_ac, zq_ad, zq_ae, zq_af, zq_ag, ↓zq_ah, ↓zq_ai, ↓zq_aj, zq_ak, ↓zq_al, ↓zq_am, e_b1, e_b2, x_o1, x_o2, q, w0, k]
  intro m
  induction m with
  | zero => intro x4 x5 x6 M hw hm h0; exact hend x4 x5 x6 M hw (by omega)
  | succ m ih =>
    intro x4 x5 x6 M hw hm h0
    rcases x_le x4 x3 with ⟨q, q_n⟩ | ⟨q, q_n⟩
    · have hw' := hw
      obtain ⟨v1, v2, v3⟩ := hw'
      have hb : 0 ≤ M 192 35 ∧ M 192 35 ≤ 840 := by omega
      have w1 : e_w (x4 + 1) = x4 + 1 := a_w_id (by omega) (by omega)
      have w2 : e_w (x3 + 1) = x3 + 1 := a_w_id (by omega) (by omega)
      have w3 : e_w (32 * (x3 + 1)) = 32 * (x3 + 1) := a_w_id (by omega) (by omega)
      have w4 : e_w (32 * (x3 + 1) + 1) = 32 * (x3 + 1) + 1 := a_w_id (by omega) (by omega)
      have w5 : e_w (32 * (x3 + 1) + (x4 + 1)) = 32 * (x3 + 1) + (x4 + 1) := a_w_id (by omega) (by omega)
      have w6 : e_w (32 * x3) = 32 * x3 := a_w_id (by omega) (by omega)
      have w7 : e_w (32 * x3 + x4) = 32 * x3 + x4 := a_w_id (by omega) (by omega)
      obtain ⟨s, ks, hs⟩ := r_pays (k := x3) (s := x4) hb h3 ⟨h0, by omega⟩
      have st : ∀ v M, e_st 100 [207, 32 * x3 + x4, v] M = some (e_up M 207 (32 * x3 + x4).toNat v) := fun v M => r_stA (a := 207) (n := 1023) (by decide) (by decide) (by decide +kernel) (by omega) (by omega)
      have st2 : ∀ v M, e_st 100 [208, 32 * x3 + x4, v] M = some (e_up M 208 (32 * x3 + x4).toNat v) := fun v M => r_stA (a := 208) (n := 1023) (by decide) (by decide) (by decide +kernel) (by omega) (by omega)
      have ld : ∀ j M, 0 ≤ j → j ≤ 1023 → e_op 60 [207, j] M = some (M 207 j.toNat) := fun j M j0 j1 => r_rdA (a := 207) (n := 1023) (by decide) (by decide) (by decide +kernel) j0 j1
      have ld2 : ∀ j M, 0 ≤ j → j ≤ 1023 → e_op 60 [208, j] M = some (M 208 j.toNat) := fun j M j0 j1 => r_rdA (a := 208) (n := 1023) (by decide) (by decide) (by decide +kernel) j0 j1
      have key : ∃ v1 v2 y5 y6, (-2147483648 ≤ v1 ∧ v1 ≤ 2147483647) ∧ (-2147483648 ≤ v2 ∧ v2 ≤ 2147483647) ∧ ∀ t', e_tv E_C (E_V 235) e_t235_90 [192, d, t, x3, x4, x5, x6] M = t' ↔ E_V 235 90 [192, d, t, x3, x4 + 1, y5, y6] (e_up (e_up M 207 (32 * x3 + x4).toNat v1) 208 (32 * x3 + x4).toNat v2) = t' := by
        rcases hs with hs | hs
        · subst hs
          obtain ⟨g, kg, hg⟩ := r_gain (k := x3) (s := x4) hb ⟨h3.1, by omega⟩
          have l1 := ld (32 * (x3 + 1) + (x4 + 1)) M (by omega) (by omega)
          have l2 := fun v => ld2 (32 * (x3 + 1) + (x4 + 1)) (e_up M 207 (32 * x3 + x4).toNat v) (by omega) (by omega)
          refine ⟨e_w (e_w g + M 207 (32 * (x3 + 1) + (x4 + 1)).toNat), e_w (e_up M 207 (32 * x3 + x4).toNat (e_w (e_w g + M 207 (32 * (x3 + 1) + (x4 + 1)).toNat)) 208 (32 * (x3 + 1) + (x4 + 1)).toNat), 0, (32 * (x3 + 1) + (x4 + 1)), a_w _, a_w _, fun t' => ?_⟩
          unfold e_t235_90
          simp [zq_a, zq_b, zq_c, zq_d, zq_e, zq_f, zq_g, zq_h, zq_i, zq_j, zq_k, zq_l, zq_m, zq_n, zq_o, zq_p, zq_q, zq_r, zq_s, zq_t, zq_u, zq_v, zq_w, zq_x, zq_y, zq_z, zq_A, zq_B, zq_C, zq_D, zq_E, zq_F, zq_G, zq_H, zq_I, zq_J, zq_K, zq_L, ↓zq_M, ↓zq_N, ↓zq_O, ↓zq_P, ↓zq_Q, ↓zq_R, zq_S, zq_T, zq_U, zq_V, zq_W, zq_X, zq_Y, zq_Z, zq_0, zq_1, zq_2, zq_3, zq_4, zq_5, ↓zq_6, ↓zq_7, ↓zq_8, ↓zq_9, ↓zq_aa, zq_ab, zq_ac, zq_ad, zq_ae, zq_af, zq_ag, ↓zq_ah, ↓zq_ai, ↓zq_aj, zq_ak, ↓zq_al, ↓zq_am, e_b1, e_b2, x_o1, x_o2, r_O31, r_O32, r_F34, q, q_n, ks, kg, w1, w2, w3, w4, w5, w6, w7, l1, l2, st, st2]
        · subst hs
          obtain ⟨g, kg, hg⟩ := r_gain (k := x3) (s := 0) hb ⟨h3.1, by omega⟩
          have l1 := ld (32 * (x3 + 1) + 1) M (by omega) (by omega)
          have l2 := fun v => ld2 (32 * (x3 + 1) + 1) (e_up M 207 (32 * x3 + x4).toNat v) (by omega) (by omega)
          refine ⟨e_w (e_w (g - M 192 34) + M 207 (32 * (x3 + 1) + 1).toNat), e_w (e_up M 207 (32 * x3 + x4).toNat (e_w (e_w (g - M 192 34) + M 207 (32 * (x3 + 1) + 1).toNat)) 208 (32 * (x3 + 1) + 1).toNat + 1), 1, (32 * (x3 + 1) + 1), a_w _, a_w _, fun t' => ?_⟩
          unfold e_t235_90
          simp [zq_a, zq_b, zq_c, zq_d, zq_e, zq_f, zq_g, zq_h, zq_i, zq_j, zq_k, zq_l, zq_m, zq_n, zq_o, zq_p, zq_q, zq_r, zq_s, zq_t, zq_u, zq_v, zq_w, zq_x, zq_y, zq_z, zq_A, zq_B, zq_C, zq_D, zq_E, zq_F, zq_G, zq_H, zq_I, zq_J, zq_K, zq_L, ↓zq_M, ↓zq_N, ↓zq_O, ↓zq_P, ↓zq_Q, ↓zq_R, zq_S, zq_T, zq_U, zq_V, zq_W, zq_X, zq_Y, zq_Z, zq_0, zq_1, zq_2, zq_3, zq_4, zq_5, ↓zq_6, ↓zq_7, ↓zq_8, ↓zq_9, ↓zq_aa, zq_ab, zq_ac, zq_ad, zq_ae, zq_af, zq_ag, ↓zq_ah, ↓zq_ai, ↓zq_aj, zq_ak, ↓zq_al, ↓zq_am, e_b1, e_b2, x_o1, x_o2, r_O31, r_O32, r_F34, q, q_n, ks, kg, w1, w2, w3, w4, w5, w6, w7, l1, l2, st, st2]
      obtain ⟨v1, v2, y5, y6, hv1, hv2, key⟩ := key
      obtain ⟨a1, a2⟩ := r_wv_a (d := d) (M := M) (k := (32 * x3 + x4).toNat) (v := v1) (Or.inl rfl) (by omega) hv1 hw
      obtain ⟨b1, b2⟩ := r_wv_a (d := d) (k := (32 * x3 + x4).toNat) (v := v2) (Or.inr rfl) (by omega) hv2 a1
      obtain ⟨M', k, t1, t2⟩ := ih (x4 + 1) y5 y6 _ b1 (by omega) (by omega)
      exact ⟨M', (E_V_eq 235 90 _ M).trans ((key _).mpr k), t1, a_fr_tr a2 (a_fr_tr b2 t2)⟩
    · exact hend x4 x5 x6 M hw q
theorem r_fw_k {d t : Int} (hd : 0 ≤ d ∧ d ≤ 7) : ∀ (m : Nat) (x3 x4 x5 x6 : Int) (M : EM), r_wv d M → (x3 + 1).toNat ≤ m → x3 < 30 → -1 ≤ x3 → ∃ M', E_V 235 83 [192, d, t, x3, x4, x5, x6] M = some (0, M') ∧ r_wv d M' ∧ a_fr r_wq M M' := by
  have hend : ∀ x3 x4 x5 x6 M, r_wv d M → ¬ (0 ≤ x3) → ∃ M', E_V 235 83 [192, d, t, x3, x4, x5, x6] M = some (0, M') ∧ r_wv d M' ∧ a_fr r_wq M M' := by
    intro x3 x4 x5 x6 M hw q
    refine ⟨M, ?_, hw, a_fr_rf⟩
    rw [E_V_eq]
    show e_tv E_C (E_V 235) e_t235_83 [192, d, t, x3, x4, x5, x6] M = _
    unfold e_t235_83
    simp [zq_a, zq_b, zq_c, zq_d, zq_e, zq_f, zq_g, zq_h, zq_i, zq_j, zq_k, zq_l, zq_m, zq_n, zq_o, zq_p, zq_q, zq_r, zq_s, zq_t, zq_u, zq_v, zq_w, zq_x, zq_y, zq_z, zq_A, zq_B, zq_C, zq_D, zq_E, zq_F, zq_G, zq_H, zq_I, zq_J, zq_K, zq_L, ↓zq_M, ↓zq_N, ↓zq_O, ↓zq_P, ↓zq_Q, ↓zq_R, zq_S, zq_T, zq_U, zq_V, zq_W, zq_X, zq_Y, zq_Z, zq_0, zq_1, zq_2, zq_3, zq_4, zq_5, ↓zq_6, ↓zq_7, ↓zq_8, ↓zq_9, ↓zq_aa, zq_ab, zq_ac, zq_ad, zq_ae, zq_af, zq_ag, ↓zq_ah, ↓zq_ai, ↓zq_aj, zq_ak, ↓zq_al, ↓zq_am, e_b1, e_b2, x_o1, x_o2, q]
  intro m
  induction m with
  | zero => intro x3 x4 x5 x6 M hw hm h0 h1; exact hend x3 x4 x5 x6 M hw (by omega)
  | succ m ih =>
    intro x3 x4 x5 x6 M hw hm h0 h1
    rcases x_le 0 x3 with ⟨q, q_n⟩ | ⟨q, q_n⟩
    · obtain ⟨M', k, t1⟩ := r_fw_d (t := t) hd ⟨q, h0⟩ (fun M1 hw1 y4 y5 y6 => ih (x3 - 1) y4 y5 y6 M1 hw1 (by omega) (by omega) (by omega)) _ 0 x5 x6 M hw (Nat.le_refl _) (by decide)
      refine ⟨M', ?_, t1⟩
      rw [E_V_eq]
      show e_tv E_C (E_V 235) e_t235_83 [192, d, t, x3, x4, x5, x6] M = _
      unfold e_t235_83
      simp [zq_a, zq_b, zq_c, zq_d, zq_e, zq_f, zq_g, zq_h, zq_i, zq_j, zq_k, zq_l, zq_m, zq_n, zq_o, zq_p, zq_q, zq_r, zq_s, zq_t, zq_u, zq_v, zq_w, zq_x, zq_y, zq_z, zq_A, zq_B, zq_C, zq_D, zq_E, zq_F, zq_G, zq_H, zq_I, zq_J, zq_K, zq_L, ↓zq_M, ↓zq_N, ↓zq_O, ↓zq_P, ↓zq_Q, ↓zq_R, zq_S, zq_T, zq_U, zq_V, zq_W, zq_X, zq_Y, zq_Z, zq_0, zq_1, zq_2, zq_3, zq_4, zq_5, ↓zq_6, ↓zq_7, ↓zq_8, ↓zq_9, ↓zq_aa, zq_ab, zq_ac, zq_ad, zq_ae, zq_af, zq_ag, ↓zq_ah, ↓zq_ai, ↓zq_aj, zq_ak, ↓zq_al, ↓zq_am, e_b1, e_b2, x_o1, x_o2, q, q_n, k]
    · exact hend x3 x4 x5 x6 M hw q
theorem r_fw_c {d t : Int} (hd : 0 ≤ d ∧ d ≤ 7) : ∀ (m : Nat) (x3 x4 x5 x6 : Int) (M : EM), r_wv d M → (32 - x3).toNat ≤ m → 0 ≤ x3 → ∃ M', E_V 235 28 [192, d, t, x3, x4, x5, x6] M = some (0, M') ∧ r_wv d M' ∧ a_fr r_wq M M' := by
  have hend : ∀ x3 x4 x5 x6 M, r_wv d M → ¬ (x3 < 32) → ∃ M', E_V 235 28 [192, d, t, x3, x4, x5, x6] M = some (0, M') ∧ r_wv d M' ∧ a_fr r_wq M M' := by
    intro x3 x4 x5 x6 M hw q
    have ls := (r_isD d M hd).2.2.1
    have h3 := hw.2.2
    have w1 : e_w (M 197 d.toNat - 1) = M 197 d.toNat - 1 := a_w_id (by omega) (by omega)
    obtain ⟨M', k, t1⟩ := r_fw_k (t := t) hd 30 (M 197 d.toNat - 1) x4 x5 x6 M hw (by omega) (by omega) (by omega)
    refine ⟨M', ?_, t1⟩
    rw [E_V_eq]
    show e_tv E_C (E_V 235) e_t235_28 [192, d, t, x3, x4, x5, x6] M = _
    unfold e_t235_28
    simp [zq_a, zq_b, zq_c, zq_d, zq_e, zq_f, zq_g, zq_h, zq_i, zq_j, zq_k, zq_l, zq_m, zq_n, zq_o, zq_p, zq_q, zq_r, zq_s, zq_t, zq_u, zq_v, zq_w, zq_x, zq_y, zq_z, zq_A, zq_B, zq_C, zq_D, zq_E, zq_F, zq_G, zq_H, zq_I, zq_J, zq_K, zq_L, ↓zq_M, ↓zq_N, ↓zq_O, ↓zq_P, ↓zq_Q, ↓zq_R, zq_S, zq_T, zq_U, zq_V, zq_W, zq_X, zq_Y, zq_Z, zq_0, zq_1, zq_2, zq_3, zq_4, zq_5, ↓zq_6, ↓zq_7, ↓zq_8, ↓zq_9, ↓zq_aa, zq_ab, zq_ac, zq_ad, zq_ae, zq_af, zq_ag, ↓zq_ah, ↓zq_ai, ↓zq_aj, zq_ak, ↓zq_al, ↓zq_am, e_b1, e_b2, x_o1, x_o2, r_O4, q, ls, w1, k]
  intro m
  induction m with
  | zero => intro x3 x4 x5 x6 M hw hm h0; exact hend x3 x4 x5 x6 M hw (by omega)
  | succ m ih =>
    intro x3 x4 x5 x6 M hw hm h0
    rcases x_lt x3 32 with ⟨q, q_n⟩ | ⟨q, q_n⟩
    · have ls := (r_isD d M hd).2.2.1
      have h3 := hw.2.2
      have w1 : e_w (x3 + 1) = x3 + 1 := a_w_id (by omega) (by omega)
      have w6 : e_w (32 * M 197 d.toNat) = 32 * M 197 d.toNat := a_w_id (by omega) (by omega)
      have w7 : e_w (32 * M 197 d.toNat + x3) = 32 * M 197 d.toNat + x3 := a_w_id (by omega) (by omega)
      have st : ∀ v M1, e_st 100 [207, 32 * M 197 d.toNat + x3, v] M1 = some (e_up M1 207 (32 * M 197 d.toNat + x3).toNat v) := fun v M1 => r_stA (a := 207) (n := 1023) (by decide) (by decide) (by decide +kernel) (by omega) (by omega)
      have st2 : ∀ v M1, e_st 100 [208, 32 * M 197 d.toNat + x3, v] M1 = some (e_up M1 208 (32 * M 197 d.toNat + x3).toNat v) := fun v M1 => r_stA (a := 208) (n := 1023) (by decide) (by decide) (by decide +kernel) (by omega) (by omega)
      obtain ⟨a1, a2⟩ := r_wv_a (d := d) (M := M) (k := (32 * M 197 d.toNat + x3).toNat) (v := 0) (Or.inl rfl) (by omega) (by decide) hw
      obtain ⟨b1, b2⟩ := r_wv_a (d := d) (k := (32 * M 197 d.toNat + x3).toNat) (v := 0) (Or.inr rfl) (by omega) (by decide) a1
      obtain ⟨M', k, t1, t2⟩ := ih (x3 + 1) x4 x5 x6 _ b1 (by omega) (by omega)
      have ls2 := (r_isD d (e_up M 207 (32 * M 197 d.toNat + x3).toNat 0) hd).2.2.1
      rw [c_up_n (fun hc => absurd hc.1 (by decide))] at ls2
      refine ⟨M', ?_, t1, a_fr_tr a2 (a_fr_tr b2 t2)⟩
      rw [E_V_eq]
      show e_tv E_C (E_V 235) e_t235_28 [192, d, t, x3, x4, x5, x6] M = _
      unfold e_t235_28
      simp [zq_a, zq_b, zq_c, zq_d, zq_e, zq_f, zq_g, zq_h, zq_i, zq_j, zq_k, zq_l, zq_m, zq_n, zq_o, zq_p, zq_q, zq_r, zq_s, zq_t, zq_u, zq_v, zq_w, zq_x, zq_y, zq_z, zq_A, zq_B, zq_C, zq_D, zq_E, zq_F, zq_G, zq_H, zq_I, zq_J, zq_K, zq_L, ↓zq_M, ↓zq_N, ↓zq_O, ↓zq_P, ↓zq_Q, ↓zq_R, zq_S, zq_T, zq_U, zq_V, zq_W, zq_X, zq_Y, zq_Z, zq_0, zq_1, zq_2, zq_3, zq_4, zq_5, ↓zq_6, ↓zq_7, ↓zq_8, ↓zq_9, ↓zq_aa, zq_ab, zq_ac, zq_ad, zq_ae, zq_af, zq_ag, ↓zq_ah, ↓zq_ai, ↓zq_aj, zq_ak, ↓zq_al, ↓zq_am, e_b1, e_b2, x_o1, x_o2, r_O4, r_O31, r_O32, q, q_n, ls, ls2, w1, w6, w7, st, st2, k]
    · exact hend x3 x4 x5 x6 M hw q
theorem r_findWashing {d t : Int} {M : EM} (hJ : r_J M) (hd : 0 ≤ d ∧ d ≤ 7) (hn : 1 ≤ M 197 d.toNat ∧ M 197 d.toNat ≤ 30) : ∃ M', E_C 235 [192, d, t] M = some (0, M') ∧ r_wv d M' ∧ a_fr r_wq M M' := by
  have w1 : e_w (120 * d) = 120 * d := a_w_id (by omega) (by omega)
  obtain ⟨a1, a2⟩ := r_qfld (k := 33) (v := e_w (t.tdiv 10000)) (by decide) (by decide) (a_w _) hJ
  obtain ⟨b1, b2⟩ := r_qfld (k := 34) (v := t.tmod 10000) (by decide) (by decide) (a_tmod (by decide) (by decide) (by decide)) a1
  obtain ⟨c1, c2⟩ := r_qfld (k := 35) (v := 120 * d) (by decide) (by decide) ⟨by omega, by omega⟩ b1
  have hf := a_fr_tr a2 (a_fr_tr b2 c2)
  obtain ⟨M', k, t1, t2⟩ := r_fw_c (t := t) hd 32 0 0 0 0 _ ⟨c1, c_up_s, by rw [r_wq_out hf (by omega)]; exact hn⟩ (by decide) (by decide)
  refine ⟨M', ?_, t1, a_fr_tr hf t2⟩
  rw [r_ent (show e_rok 235 [192, d, t] = true from decide_eq_true r_ref)]
  show e_tv E_C (E_V 235) e_t235_0 [192, d, t, 0, 0, 0, 0] M = _
  unfold e_t235_0
  simp [zq_a, zq_b, zq_c, zq_d, zq_e, zq_f, zq_g, zq_h, zq_i, zq_j, zq_k, zq_l, zq_m, zq_n, zq_o, zq_p, zq_q, zq_r, zq_s, zq_t, zq_u, zq_v, zq_w, zq_x, zq_y, zq_z, zq_A, zq_B, zq_C, zq_D, zq_E, zq_F, zq_G, zq_H, zq_I, zq_J, zq_K, zq_L, ↓zq_M, ↓zq_N, ↓zq_O, ↓zq_P, ↓zq_Q, ↓zq_R, zq_S, zq_T, zq_U, zq_V, zq_W, zq_X, zq_Y, zq_Z, zq_0, zq_1, zq_2, zq_3, zq_4, zq_5, ↓zq_6, ↓zq_7, ↓zq_8, ↓zq_9, ↓zq_aa, zq_ab, zq_ac, zq_ad, zq_ae, zq_af, zq_ag, ↓zq_ah, ↓zq_ai, ↓zq_aj, zq_ak, ↓zq_al, ↓zq_am, e_b1, e_b2, x_o1, x_o2, r_P33, r_P34, r_P35, w1, k]
theorem r_wash {d t : Int} {M : EM} (hJ : r_J M) : r_Q 236 [192, d, t] M := by
  obtain ⟨n, kn, hn⟩ := r_wrongWash (d := d) (t := t) hJ.2.1
  by_cases q : n = 0
  · subst q
    obtain ⟨h1, h2⟩ := hn rfl
    obtain ⟨M1, k1, t1, t2⟩ := r_findWashing (t := t) hJ h1 h2
    have l1 : e_op 60 [207, 0] M1 = some (M1 207 0) := r_rdA (a := 207) (i := 0) (n := 1023) (by decide) (by decide) (by decide +kernel) (by decide) (by decide)
    refine ⟨M1 207 0, M1, ?_, t1.1.1, t2, t1.1.2.2.2.2⟩
    rw [r_ent (show e_rok 236 [192, d, t] = true from decide_eq_true r_ref)]
    show e_tv E_C (E_V 236) e_t236_0 [192, d, t, 0] M = _
    unfold e_t236_0
    simp [zq_a, zq_b, zq_c, zq_d, zq_e, zq_f, zq_g, zq_h, zq_i, zq_j, zq_k, zq_l, zq_m, zq_n, zq_o, zq_p, zq_q, zq_r, zq_s, zq_t, zq_u, zq_v, zq_w, zq_x, zq_y, zq_z, zq_A, zq_B, zq_C, zq_D, zq_E, zq_F, zq_G, zq_H, zq_I, zq_J, zq_K, zq_L, ↓zq_M, ↓zq_N, ↓zq_O, ↓zq_P, ↓zq_Q, ↓zq_R, zq_S, zq_T, zq_U, zq_V, zq_W, zq_X, zq_Y, zq_Z, zq_0, zq_1, zq_2, zq_3, zq_4, zq_5, ↓zq_6, ↓zq_7, ↓zq_8, ↓zq_9, ↓zq_aa, zq_ab, zq_ac, zq_ad, zq_ae, zq_af, zq_ag, ↓zq_ah, ↓zq_ai, ↓zq_aj, zq_ak, ↓zq_al, ↓zq_am, e_b1, e_b2, x_o1, x_o2, r_O31, kn, k1, l1]
  · refine r_same (r := n) hJ ?_
    rw [r_ent (show e_rok 236 [192, d, t] = true from decide_eq_true r_ref)]
    show e_tv E_C (E_V 236) e_t236_0 [192, d, t, 0] M = _
    unfold e_t236_0
    simp [zq_a, zq_b, zq_c, zq_d, zq_e, zq_f, zq_g, zq_h, zq_i, zq_j, zq_k, zq_l, zq_m, zq_n, zq_o, zq_p, zq_q, zq_r, zq_s, zq_t, zq_u, zq_v, zq_w, zq_x, zq_y, zq_z, zq_A, zq_B, zq_C, zq_D, zq_E, zq_F, zq_G, zq_H, zq_I, zq_J, zq_K, zq_L, ↓zq_M, ↓zq_N, ↓zq_O, ↓zq_P, ↓zq_Q, ↓zq_R, zq_S, zq_T, zq_U, zq_V, zq_W, zq_X, zq_Y, zq_Z, zq_0, zq_1, zq_2, zq_3, zq_4, zq_5, ↓zq_6, ↓zq_7, ↓zq_8, ↓zq_9, ↓zq_aa, zq_ab, zq_ac, zq_ad, zq_ae, zq_af, zq_ag, ↓zq_ah, ↓zq_ai, ↓zq_aj, zq_ak, ↓zq_al, ↓zq_am, e_b1, e_b2, x_o1, x_o2, kn, q]
theorem r_washed_loop {d t i x4 : Int} {M : EM} (hd : 0 ≤ d ∧ d ≤ 7) (hw : r_wv d M) : ∀ (m : Nat) (x5 x6 x7 x8 : Int), (30 - x7).toNat ≤ m → 0 ≤ x7 → 0 ≤ x6 → x6 ≤ x7 → ∃ r, E_V 237 52 [192, d, t, i, x4, x5, x6, x7, x8] M = some (r, M) := by
  have ls := (r_isD d M hd).2.2.1
  obtain ⟨v1, v2, v3⟩ := hw
  have hb : 0 ≤ M 192 35 ∧ M 192 35 ≤ 840 := by omega
  have hend : ∀ x5 x6 x7 x8, ¬ (x7 < M 197 d.toNat) → ∃ r, E_V 237 52 [192, d, t, i, x4, x5, x6, x7, x8] M = some (r, M) := by
    intro x5 x6 x7 x8 q
    refine ⟨-4, ?_⟩
    rw [E_V_eq]
    show e_tv E_C (E_V 237) e_t237_52 [192, d, t, i, x4, x5, x6, x7, x8] M = _
    unfold e_t237_52
    simp [zq_a, zq_b, zq_c, zq_d, zq_e, zq_f, zq_g, zq_h, zq_i, zq_j, zq_k, zq_l, zq_m, zq_n, zq_o, zq_p, zq_q, zq_r, zq_s, zq_t, zq_u, zq_v, zq_w, zq_x, zq_y, zq_z, zq_A, zq_B, zq_C, zq_D, zq_E, zq_F, zq_G, zq_H, zq_I, zq_J, zq_K, zq_L, ↓zq_M, ↓zq_N, ↓zq_O, ↓zq_P, ↓zq_Q, ↓zq_R, zq_S, zq_T, zq_U, zq_V, zq_W, zq_X, zq_Y, zq_Z, zq_0, zq_1, zq_2, zq_3, zq_4, zq_5, ↓zq_6, ↓zq_7, ↓zq_8, ↓zq_9, ↓zq_aa, zq_ab, zq_ac, zq_ad, zq_ae, zq_af, zq_ag, ↓zq_ah, ↓zq_ai, ↓zq_aj, zq_ak, ↓zq_al, ↓zq_am, e_b1, e_b2, x_o1, x_o2, r_O4, ls, q]
  intro m
  induction m with
  | zero => intro x5 x6 x7 x8 hm h0 h1 h2; exact hend x5 x6 x7 x8 (by omega)
  | succ m ih =>
    intro x5 x6 x7 x8 hm h0 h1 h2
    rcases x_lt x7 (M 197 d.toNat) with ⟨q, q_n⟩ | ⟨q, q_n⟩
    · have w1 : e_w (x7 + 1) = x7 + 1 := a_w_id (by omega) (by omega)
      have w2 : e_w (x6 + 1) = x6 + 1 := a_w_id (by omega) (by omega)
      obtain ⟨s, ks, hs⟩ := r_pays (k := x7) (s := x6) hb ⟨h0, by omega⟩ ⟨h1, by omega⟩
      rcases hs with hs | hs
      · subst hs
        obtain ⟨r, k⟩ := ih (e_w (x5 + 0)) (x6 + 1) (x7 + 1) 0 (by omega) (by omega) (by omega) (by omega)
        rw [Int.add_zero] at k
        refine ⟨r, ?_⟩
        rw [E_V_eq]
        show e_tv E_C (E_V 237) e_t237_52 [192, d, t, i, x4, x5, x6, x7, x8] M = _
        unfold e_t237_52
        simp [zq_a, zq_b, zq_c, zq_d, zq_e, zq_f, zq_g, zq_h, zq_i, zq_j, zq_k, zq_l, zq_m, zq_n, zq_o, zq_p, zq_q, zq_r, zq_s, zq_t, zq_u, zq_v, zq_w, zq_x, zq_y, zq_z, zq_A, zq_B, zq_C, zq_D, zq_E, zq_F, zq_G, zq_H, zq_I, zq_J, zq_K, zq_L, ↓zq_M, ↓zq_N, ↓zq_O, ↓zq_P, ↓zq_Q, ↓zq_R, zq_S, zq_T, zq_U, zq_V, zq_W, zq_X, zq_Y, zq_Z, zq_0, zq_1, zq_2, zq_3, zq_4, zq_5, ↓zq_6, ↓zq_7, ↓zq_8, ↓zq_9, ↓zq_aa, zq_ab, zq_ac, zq_ad, zq_ae, zq_af, zq_ag, ↓zq_ah, ↓zq_ai, ↓zq_aj, zq_ak, ↓zq_al, ↓zq_am, e_b1, e_b2, x_o1, x_o2, r_O4, ls, q, q_n, ks, w1, w2, k]
      · subst hs
        by_cases c : x5 = i
        · refine ⟨x7, ?_⟩
          rw [E_V_eq]
          show e_tv E_C (E_V 237) e_t237_52 [192, d, t, i, x4, x5, x6, x7, x8] M = _
          unfold e_t237_52
          simp [zq_a, zq_b, zq_c, zq_d, zq_e, zq_f, zq_g, zq_h, zq_i, zq_j, zq_k, zq_l, zq_m, zq_n, zq_o, zq_p, zq_q, zq_r, zq_s, zq_t, zq_u, zq_v, zq_w, zq_x, zq_y, zq_z, zq_A, zq_B, zq_C, zq_D, zq_E, zq_F, zq_G, zq_H, zq_I, zq_J, zq_K, zq_L, ↓zq_M, ↓zq_N, ↓zq_O, ↓zq_P, ↓zq_Q, ↓zq_R, zq_S, zq_T, zq_U, zq_V, zq_W, zq_X, zq_Y, zq_Z, zq_0, zq_1, zq_2, zq_3, zq_4, zq_5, ↓zq_6, ↓zq_7, ↓zq_8, ↓zq_9, ↓zq_aa, zq_ab, zq_ac, zq_ad, zq_ae, zq_af, zq_ag, ↓zq_ah, ↓zq_ai, ↓zq_aj, zq_ak, ↓zq_al, ↓zq_am, e_b1, e_b2, x_o1, x_o2, r_O4, ls, q, q_n, ks, c]
        · obtain ⟨r, k⟩ := ih (e_w (x5 + 1)) 1 (x7 + 1) 1 (by omega) (by omega) (by omega) (by omega)
          refine ⟨r, ?_⟩
          rw [E_V_eq]
          show e_tv E_C (E_V 237) e_t237_52 [192, d, t, i, x4, x5, x6, x7, x8] M = _
          unfold e_t237_52
          simp [zq_a, zq_b, zq_c, zq_d, zq_e, zq_f, zq_g, zq_h, zq_i, zq_j, zq_k, zq_l, zq_m, zq_n, zq_o, zq_p, zq_q, zq_r, zq_s, zq_t, zq_u, zq_v, zq_w, zq_x, zq_y, zq_z, zq_A, zq_B, zq_C, zq_D, zq_E, zq_F, zq_G, zq_H, zq_I, zq_J, zq_K, zq_L, ↓zq_M, ↓zq_N, ↓zq_O, ↓zq_P, ↓zq_Q, ↓zq_R, zq_S, zq_T, zq_U, zq_V, zq_W, zq_X, zq_Y, zq_Z, zq_0, zq_1, zq_2, zq_3, zq_4, zq_5, ↓zq_6, ↓zq_7, ↓zq_8, ↓zq_9, ↓zq_aa, zq_ab, zq_ac, zq_ad, zq_ae, zq_af, zq_ag, ↓zq_ah, ↓zq_ai, ↓zq_aj, zq_ak, ↓zq_al, ↓zq_am, e_b1, e_b2, x_o1, x_o2, r_O4, ls, q, q_n, ks, c, w1, k]
    · exact hend x5 x6 x7 x8 q
theorem r_washed {d t i : Int} {M : EM} (hJ : r_J M) : r_Q 237 [192, d, t, i] M := by
  rcases x_lt i (-1) with ⟨q0, q0_n⟩ | ⟨q0, q0_n⟩
  · refine r_same (r := -1) hJ ?_
    rw [r_ent (show e_rok 237 [192, d, t, i] = true from decide_eq_true r_ref)]
    show e_tv E_C (E_V 237) e_t237_0 [192, d, t, i, 0, 0, 0, 0, 0] M = _
    unfold e_t237_0
    simp [zq_a, zq_b, zq_c, zq_d, zq_e, zq_f, zq_g, zq_h, zq_i, zq_j, zq_k, zq_l, zq_m, zq_n, zq_o, zq_p, zq_q, zq_r, zq_s, zq_t, zq_u, zq_v, zq_w, zq_x, zq_y, zq_z, zq_A, zq_B, zq_C, zq_D, zq_E, zq_F, zq_G, zq_H, zq_I, zq_J, zq_K, zq_L, ↓zq_M, ↓zq_N, ↓zq_O, ↓zq_P, ↓zq_Q, ↓zq_R, zq_S, zq_T, zq_U, zq_V, zq_W, zq_X, zq_Y, zq_Z, zq_0, zq_1, zq_2, zq_3, zq_4, zq_5, ↓zq_6, ↓zq_7, ↓zq_8, ↓zq_9, ↓zq_aa, zq_ab, zq_ac, zq_ad, zq_ae, zq_af, zq_ag, ↓zq_ah, ↓zq_ai, ↓zq_aj, zq_ak, ↓zq_al, ↓zq_am, e_b1, e_b2, x_o1, x_o2, q0, q0_n]
  · obtain ⟨n, kn, hn⟩ := r_wrongWash (d := d) (t := t) hJ.2.1
    by_cases q : n = 0
    · subst q
      obtain ⟨h1, h2⟩ := hn rfl
      obtain ⟨M1, k1, t1, t2⟩ := r_findWashing (t := t) hJ h1 h2
      have l1 : e_op 60 [208, 0] M1 = some (M1 208 0) := r_rdA (a := 208) (i := 0) (n := 1023) (by decide) (by decide) (by decide +kernel) (by decide) (by decide)
      by_cases c : i = -1
      · subst c
        refine ⟨M1 208 0, M1, ?_, t1.1.1, t2, t1.1.2.2.2.2⟩
        rw [r_ent (show e_rok 237 [192, d, t, -1] = true from decide_eq_true r_ref)]
        show e_tv E_C (E_V 237) e_t237_0 [192, d, t, -1, 0, 0, 0, 0, 0] M = _
        unfold e_t237_0
        simp [zq_a, zq_b, zq_c, zq_d, zq_e, zq_f, zq_g, zq_h, zq_i, zq_j, zq_k, zq_l, zq_m, zq_n, zq_o, zq_p, zq_q, zq_r, zq_s, zq_t, zq_u, zq_v, zq_w, zq_x, zq_y, zq_z, zq_A, zq_B, zq_C, zq_D, zq_E, zq_F, zq_G, zq_H, zq_I, zq_J, zq_K, zq_L, ↓zq_M, ↓zq_N, ↓zq_O, ↓zq_P, ↓zq_Q, ↓zq_R, zq_S, zq_T, zq_U, zq_V, zq_W, zq_X, zq_Y, zq_Z, zq_0, zq_1, zq_2, zq_3, zq_4, zq_5, ↓zq_6, ↓zq_7, ↓zq_8, ↓zq_9, ↓zq_aa, zq_ab, zq_ac, zq_ad, zq_ae, zq_af, zq_ag, ↓zq_ah, ↓zq_ai, ↓zq_aj, zq_ak, ↓zq_al, ↓zq_am, e_b1, e_b2, x_o1, x_o2, r_O32, kn, k1, l1]
      · obtain ⟨r, k⟩ := r_washed_loop (t := t) (i := i) (x4 := 0) h1 t1 30 0 0 0 0 (by decide) (by decide) (by decide) (by decide)
        refine ⟨r, M1, ?_, t1.1.1, t2, t1.1.2.2.2.2⟩
        rw [r_ent (show e_rok 237 [192, d, t, i] = true from decide_eq_true r_ref)]
        show e_tv E_C (E_V 237) e_t237_0 [192, d, t, i, 0, 0, 0, 0, 0] M = _
        unfold e_t237_0
        simp [zq_a, zq_b, zq_c, zq_d, zq_e, zq_f, zq_g, zq_h, zq_i, zq_j, zq_k, zq_l, zq_m, zq_n, zq_o, zq_p, zq_q, zq_r, zq_s, zq_t, zq_u, zq_v, zq_w, zq_x, zq_y, zq_z, zq_A, zq_B, zq_C, zq_D, zq_E, zq_F, zq_G, zq_H, zq_I, zq_J, zq_K, zq_L, ↓zq_M, ↓zq_N, ↓zq_O, ↓zq_P, ↓zq_Q, ↓zq_R, zq_S, zq_T, zq_U, zq_V, zq_W, zq_X, zq_Y, zq_Z, zq_0, zq_1, zq_2, zq_3, zq_4, zq_5, ↓zq_6, ↓zq_7, ↓zq_8, ↓zq_9, ↓zq_aa, zq_ab, zq_ac, zq_ad, zq_ae, zq_af, zq_ag, ↓zq_ah, ↓zq_ai, ↓zq_aj, zq_ak, ↓zq_al, ↓zq_am, e_b1, e_b2, x_o1, x_o2, r_O32, q0, q0_n, kn, k1, c, k]
    · refine r_same (r := n) hJ ?_
      rw [r_ent (show e_rok 237 [192, d, t, i] = true from decide_eq_true r_ref)]
      show e_tv E_C (E_V 237) e_t237_0 [192, d, t, i, 0, 0, 0, 0, 0] M = _
      unfold e_t237_0
      simp [zq_a, zq_b, zq_c, zq_d, zq_e, zq_f, zq_g, zq_h, zq_i, zq_j, zq_k, zq_l, zq_m, zq_n, zq_o, zq_p, zq_q, zq_r, zq_s, zq_t, zq_u, zq_v, zq_w, zq_x, zq_y, zq_z, zq_A, zq_B, zq_C, zq_D, zq_E, zq_F, zq_G, zq_H, zq_I, zq_J, zq_K, zq_L, ↓zq_M, ↓zq_N, ↓zq_O, ↓zq_P, ↓zq_Q, ↓zq_R, zq_S, zq_T, zq_U, zq_V, zq_W, zq_X, zq_Y, zq_Z, zq_0, zq_1, zq_2, zq_3, zq_4, zq_5, ↓zq_6, ↓zq_7, ↓zq_8, ↓zq_9, ↓zq_aa, zq_ab, zq_ac, zq_ad, zq_ae, zq_af, zq_ag, ↓zq_ah, ↓zq_ai, ↓zq_aj, zq_ak, ↓zq_al, ↓zq_am, e_b1, e_b2, x_o1, x_o2, q0, q0_n, kn, q]
