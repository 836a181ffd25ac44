theorem l_s0_rf {M : EM} (hJ : r_J M) : l_s0 M M := ⟨hJ, fun _ => rfl, rfl, rfl⟩
theorem l_one {n i x5 x6 x7 : Int} {M : EM} (hi : 0 ≤ i ∧ i + 6 ≤ n ∧ n ≤ 3072) (hJ : r_J M) (hR : h_RD M) (hn : M 5 1 = n) : ∃ y5 y6 y7 M1, E_V 274 23 [0, 8, 192, 213, i, x5, x6, x7] M = E_V 274 1903 [0, 8, 192, 213, i, y5, y6, y7] M1 ∧ l_st M M1 ∧ h_RD M1 := by
  have hd := l_head (x5 := x5) (x6 := x6) (x7 := x7) hi hn
  by_cases q : e_bit (fun x y => x &&& y) (M 0 i.toNat) 63 < 0 ∨ 0 + 42 ≤ e_bit (fun x y => x &&& y) (M 0 i.toNat) 63
  · rw [if_pos q] at hd
    exact ⟨x5, x6, x7, M, hd, l_s0_st (l_s0_rf hJ), hR⟩
  · have h : e_bit (fun x y => x &&& y) (M 0 i.toNat) 63 = 0 ∨ e_bit (fun x y => x &&& y) (M 0 i.toNat) 63 = 1 ∨ e_bit (fun x y => x &&& y) (M 0 i.toNat) 63 = 2 ∨ e_bit (fun x y => x &&& y) (M 0 i.toNat) 63 = 3 ∨ e_bit (fun x y => x &&& y) (M 0 i.toNat) 63 = 4 ∨ e_bit (fun x y => x &&& y) (M 0 i.toNat) 63 = 5 ∨ e_bit (fun x y => x &&& y) (M 0 i.toNat) 63 = 6 ∨ e_bit (fun x y => x &&& y) (M 0 i.toNat) 63 = 7 ∨ e_bit (fun x y => x &&& y) (M 0 i.toNat) 63 = 8 ∨ e_bit (fun x y => x &&& y) (M 0 i.toNat) 63 = 9 ∨ e_bit (fun x y => x &&& y) (M 0 i.toNat) 63 = 10 ∨ e_bit (fun x y => x &&& y) (M 0 i.toNat) 63 = 11 ∨ e_bit (fun x y => x &&& y) (M 0 i.toNat) 63 = 12 ∨ e_bit (fun x y => x &&& y) (M 0 i.toNat) 63 = 13 ∨ e_bit (fun x y => x &&& y) (M 0 i.toNat) 63 = 14 ∨ e_bit (fun x y => x &&& y) (M 0 i.toNat) 63 = 15 ∨ e_bit (fun x y => x &&& y) (M 0 i.toNat) 63 = 16 ∨ e_bit (fun x y => x &&& y) (M 0 i.toNat) 63 = 17 ∨ e_bit (fun x y => x &&& y) (M 0 i.toNat) 63 = 18 ∨ e_bit (fun x y => x &&& y) (M 0 i.toNat) 63 = 19 ∨ e_bit (fun x y => x &&& y) (M 0 i.toNat) 63 = 20 ∨ e_bit (fun x y => x &&& y) (M 0 i.toNat) 63 = 21 ∨ e_bit (fun x y => x &&& y) (M 0 i.toNat) 63 = 22 ∨ e_bit (fun x y => x &&& y) (M 0 i.toNat) 63 = 23 ∨ e_bit (fun x y => x &&& y) (M 0 i.toNat) 63 = 24 ∨ e_bit (fun x y => x &&& y) (M 0 i.toNat) 63 = 25 ∨ e_bit (fun x y => x &&& y) (M 0 i.toNat) 63 = 26 ∨ e_bit (fun x y => x &&& y) (M 0 i.toNat) 63 = 27 ∨ e_bit (fun x y => x &&& y) (M 0 i.toNat) 63 = 28 ∨ e_bit (fun x y => x &&& y) (M 0 i.toNat) 63 = 29 ∨ e_bit (fun x y => x &&& y) (M 0 i.toNat) 63 = 30 ∨ e_bit (fun x y => x &&& y) (M 0 i.toNat) 63 = 31 ∨ e_bit (fun x y => x &&& y) (M 0 i.toNat) 63 = 32 ∨ e_bit (fun x y => x &&& y) (M 0 i.toNat) 63 = 33 ∨ e_bit (fun x y => x &&& y) (M 0 i.toNat) 63 = 34 ∨ e_bit (fun x y => x &&& y) (M 0 i.toNat) 63 = 35 ∨ e_bit (fun x y => x &&& y) (M 0 i.toNat) 63 = 36 ∨ e_bit (fun x y => x &&& y) (M 0 i.toNat) 63 = 37 ∨ e_bit (fun x y => x &&& y) (M 0 i.toNat) 63 = 38 ∨ e_bit (fun x y => x &&& y) (M 0 i.toNat) 63 = 39 ∨ e_bit (fun x y => x &&& y) (M 0 i.toNat) 63 = 40 ∨ e_bit (fun x y => x &&& y) (M 0 i.toNat) 63 = 41 := by omega
    rcases h with h | h | h | h | h | h | h | h | h | h | h | h | h | h | h | h | h | h | h | h | h | h | h | h | h | h | h | h | h | h | h | h | h | h | h | h | h | h | h | h | h | h
    · exact l_c0 hi hJ hR hn h
    · exact l_c1 hi hJ hR hn h
    · exact l_c2 hi hJ hR hn h
    · exact l_c3 hi hJ hR hn h
    · exact l_c4 hi hJ hR hn h
    · exact l_c5 hi hJ hR hn h
    · exact l_c6 hi hJ hR hn h
    · exact l_c7 hi hJ hR hn h
    · exact l_c8 hi hJ hR hn h
    · exact l_c9 hi hJ hR hn h
    · exact l_c10 hi hJ hR hn h
    · exact l_c11 hi hJ hR hn h
    · exact l_c12 hi hJ hR hn h
    · exact l_c13 hi hJ hR hn h
    · exact l_c14 hi hJ hR hn h
    · exact l_c15 hi hJ hR hn h
    · exact l_c16 hi hJ hR hn h
    · exact l_c17 hi hJ hR hn h
    · exact l_c18 hi hJ hR hn h
    · exact l_c19 hi hJ hR hn h
    · exact l_c20 hi hJ hR hn h
    · exact l_c21 hi hJ hR hn h
    · exact l_c22 hi hJ hR hn h
    · exact l_c23 hi hJ hR hn h
    · exact l_c24 hi hJ hR hn h
    · exact l_c25 hi hJ hR hn h
    · exact l_c26 hi hJ hR hn h
    · exact l_c27 hi hJ hR hn h
    · exact l_c28 hi hJ hR hn h
    · exact l_c29 hi hJ hR hn h
    · exact l_c30 hi hJ hR hn h
    · exact l_c31 hi hJ hR hn h
    · exact l_c32 hi hJ hR hn h
    · exact l_c33 hi hJ hR hn h
    · exact l_c34 hi hJ hR hn h
    · exact l_c35 hi hJ hR hn h
    · exact l_c36 hi hJ hR hn h
    · exact l_c37 hi hJ hR hn h
    · exact l_c38 hi hJ hR hn h
    · exact l_c39 hi hJ hR hn h
    · exact l_c40 hi hJ hR hn h
    · exact l_c41 hi hJ hR hn h
theorem l_1903 {i y5 y6 y7 : Int} {M : EM} (hi : 0 ≤ i ∧ i ≤ 4000) : E_V 274 1903 [0, 8, 192, 213, i, y5, y6, y7] M = E_V 274 23 [0, 8, 192, 213, i + 6, y5, y6, y7] M := by
  have w : e_w (i + 6) = i + 6 := a_w_id (by omega) (by omega)
  rw [E_V_eq]
  show e_tv E_C (E_V 274) e_t274_1903 [0, 8, 192, 213, i, y5, y6, y7] M = _
  unfold e_t274_1903
  simp [zq_a, zq_b, zq_c, zq_d, zq_e, zq_f, zq_g, zq_h, zq_i, zq_j, zq_k, zq_l, zq_m, zq_n, zq_o, zq_p, zq_q, zq_r, zq_s, zq_t, zq_u, zq_v, zq_w, zq_x, zq_y, zq_z, zq_A, zq_B, zq_C, zq_D, zq_E, zq_F, zq_G, zq_H, zq_I, zq_J, zq_K, zq_L, ↓zq_M, ↓zq_N, ↓zq_O, ↓zq_P, ↓zq_Q, ↓zq_R, zq_S, zq_T, zq_U, zq_V, zq_W, zq_X, zq_Y, zq_Z, zq_0, zq_1, zq_2, zq_3, zq_4, zq_5, ↓zq_6, ↓zq_7, ↓zq_8, ↓zq_9, ↓zq_aa, zq_ab, zq_ac, zq_ad, zq_ae, zq_af, zq_ag, ↓zq_ah, ↓zq_ai, ↓zq_aj, zq_ak, ↓zq_al, ↓zq_am, e_b1, e_b2, x_o1, x_o2, w]
theorem l_stop {n i x5 x6 x7 : Int} {M : EM} (hn : M 5 1 = n) (h0 : 0 ≤ n ∧ n ≤ 3072) (h : n - 6 < i) : E_V 274 23 [0, 8, 192, 213, i, x5, x6, x7] M = some (1, M) := by
  have wn : e_w (n - 6) = n - 6 := a_w_id (by omega) (by omega)
  have ll := l_len hn h0.1
  have hle : ¬ (i ≤ n - 6) := by omega
  rw [E_V_eq]
  show e_tv E_C (E_V 274) e_t274_23 [0, 8, 192, 213, i, x5, x6, x7] M = _
  have h1 : e_ev E_C [0, 8, 192, 213, i, x5, x6, x7] (.mulL 45 (.add (.var 4) (.mulL 11 (.add (.mulL 63 (.var 0)) (.num 6))))) M = some ([0], M) := by
    simp [zq_a, zq_b, zq_c, zq_d, zq_e, zq_f, zq_g, zq_h, zq_i, zq_j, zq_k, zq_l, zq_m, zq_n, zq_o, zq_p, zq_q, zq_r, zq_s, zq_t, zq_u, zq_v, zq_w, zq_x, zq_y, zq_z, zq_A, zq_B, zq_C, zq_D, zq_E, zq_F, zq_G, zq_H, zq_I, zq_J, zq_K, zq_L, ↓zq_M, ↓zq_N, ↓zq_O, ↓zq_P, ↓zq_Q, ↓zq_R, zq_S, zq_T, zq_U, zq_V, zq_W, zq_X, zq_Y, zq_Z, zq_0, zq_1, zq_2, zq_3, zq_4, zq_5, ↓zq_6, ↓zq_7, ↓zq_8, ↓zq_9, ↓zq_aa, zq_ab, zq_ac, zq_ad, zq_ae, zq_af, zq_ag, ↓zq_ah, ↓zq_ai, ↓zq_aj, zq_ak, ↓zq_al, ↓zq_am, e_b1, e_b2, x_o1, x_o2, ll, wn, hle]
  unfold e_t274_23
  unfold e_tv
  rw [h1]
  rfl
theorem l_loop {n : Int} (h0 : 0 ≤ n ∧ n ≤ 3072) : ∀ (m : Nat) (i x5 x6 x7 : Int) (M : EM), r_J M → h_RD M → M 5 1 = n → 0 ≤ M 5 0 → (n - i).toNat ≤ m → 0 ≤ i → i ≤ n → ∃ M', E_V 274 23 [0, 8, 192, 213, i, x5, x6, x7] M = some (1, M') ∧ 0 ≤ M' 5 0 ∧ 6 * M' 5 0 ≤ 6 * M 5 0 + (n - i) := by
  intro m
  induction m with
  | zero =>
    intro i x5 x6 x7 M hJ hR hn h5 hm hi hin
    exact ⟨M, l_stop hn h0 (by omega), h5, by omega⟩
  | succ m ih =>
    intro i x5 x6 x7 M hJ hR hn h5 hm hi hin
    rcases x_lt (n - 6) i with ⟨q, q_n⟩ | ⟨q, q_n⟩
    · exact ⟨M, l_stop hn h0 q, h5, by omega⟩
    · obtain ⟨y5, y6, y7, M1, k1, ⟨s1, s2, s3, s4, s5⟩, RR⟩ := l_one (x5 := x5) (x6 := x6) (x7 := x7) ⟨hi, by omega, h0.2⟩ hJ hR hn
      obtain ⟨M', k2, t1, t2⟩ := ih (i + 6) y5 y6 y7 M1 s1 RR (s3.trans hn) (by omega) (by omega) (by omega) (by omega)
      exact ⟨M', k1.trans ((l_1903 ⟨hi, by omega⟩).trans k2), t1, by omega⟩
