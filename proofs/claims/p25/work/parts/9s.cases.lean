/-- wash -/
theorem l_c21 {n i x5 x6 x7 : Int} {M : EM} (hi : 0 ≤ i ∧ i + 6 ≤ n ∧ n ≤ 3072) (hJ : r_J M) (hRD : h_RD M) (hn : M 5 1 = n) (hv : e_bit (fun x y => x &&& y) (M 0 i.toNat) 63 = 21) : ∃ y5 y6 y7 M1, E_V 274 23 [0, 8, 192, 213, i, x5, x6, x7] M = E_V 274 1903 [0, 8, 192, 213, i, y5, y6, y7] M1 ∧ l_st M M1 ∧ h_RD M1 := by
  obtain ⟨⟨hR, hQ⟩, hZ⟩ := hRD
  have hd := l_head (x5 := x5) (x6 := x6) (x7 := x7) hi hn
  rw [hv] at hd
  have hd2 : E_V 274 23 [0, 8, 192, 213, i, x5, x6, x7] M = E_V 274 1116 [0, 8, 192, 213, i, x5, x6, x7] M := hd
  have w1 : e_w (i + 1) = i + 1 := a_w_id (by omega) (by omega)
  have l1 := l_rd (n := n) (j := i + 1) hn (by omega) (by omega)
  have v1 := l_32 hJ (i + 1).toNat
  have w2 : e_w (i + 2) = i + 2 := a_w_id (by omega) (by omega)
  have l2 := l_rd (n := n) (j := i + 2) hn (by omega) (by omega)
  have v2 := l_32 hJ (i + 2).toNat
  obtain ⟨r1, M1, k1, -, q3, q4⟩ := a_entry a_c125 (as := [8, M 0 (i + 1).toNat, M 0 (i + 2).toNat]) (M := M) ⟨List.mem_cons_self, a_gi v1.1 v1.2, a_gi v2.1 v2.2, trivial⟩ hJ.1
  have t1 := l_cl hJ q3 q4 (by decide +kernel)
  have s1 := l_s0_st t1
  have e1 := s1.2.1
  have J1 := s1.1
  have n1 : M1 5 1 = n := s1.2.2.1.trans hn
  have m1 : e_op 60 [0, i + 1] M1 = some (M 0 (i + 1).toNat) := (l_rd n1 (by omega) (by omega)).trans (congrArg some (e1 _))
  have m2 : e_op 60 [0, i + 2] M1 = some (M 0 (i + 2).toNat) := (l_rd n1 (by omega) (by omega)).trans (congrArg some (e1 _))
  have hr : r_T [] 236 [192, M 0 (i + 1).toNat, M 0 (i + 2).toNat] M1 := r_Tq J1 (r_wash J1)
  obtain ⟨r2, M2, k2, s2, f2⟩ := l_rfF hr (by decide +kernel)
  have RR : h_R M2 := ⟨p_keep (by decide +kernel) (by decide +kernel) f2 (p_keep (by decide +kernel) (by decide +kernel) q4 hR.1), h_keB (by decide +kernel) f2 (h_keB (by decide +kernel) q4 hR.2.1), h_keI (by decide +kernel) f2 (h_keI (by decide +kernel) q4 hR.2.2.1), h_keS (by decide +kernel) f2 (h_keS (by decide +kernel) q4 hR.2.2.2.1), h_keF (by decide +kernel) f2 (h_keF (by decide +kernel) q4 hR.2.2.2.2)⟩
  have RQ : h_Q M2 := ⟨h_ke1 (by decide +kernel) f2 (h_ke1 (by decide +kernel) q4 hQ.1), h_keC (by decide +kernel) f2 (h_keB (by decide +kernel) q4 hR.2.1) (h_keC (by decide +kernel) q4 hR.2.1 hQ.2.1), h_keCI (by decide +kernel) f2 (h_keI (by decide +kernel) q4 hR.2.2.1) (h_keCI (by decide +kernel) q4 hR.2.2.1 hQ.2.2.1), h_keK (by decide +kernel) f2 (h_keK (by decide +kernel) q4 hQ.2.2.2.1), h_keKI (by decide +kernel) f2 (h_keKI (by decide +kernel) q4 hQ.2.2.2.2)⟩
  have K1 : rx_K M1 := hd_KW (by decide +kernel) q4 hZ.2.2.1
  have RZ : h_Z M2 := ⟨hd_ke (by decide +kernel) f2 (h_keB (by decide +kernel) q4 hR.2.1) (hd_ke (by decide +kernel) q4 hR.2.1 hZ.1), hd_keI (by decide +kernel) f2 (h_keI (by decide +kernel) q4 hR.2.2.1) (hd_keI (by decide +kernel) q4 hR.2.2.1 hZ.2.1), rx_Kc (by decide) k2 K1, hd_0 (by decide +kernel) f2 (hd_0 (by decide +kernel) q4 hZ.2.2.2)⟩
  refine ⟨x5, x6, x7, M2, hd2.trans ?_, l_st_s0 s1 s2, ⟨⟨RR, RQ⟩, RZ⟩⟩
  rw [E_V_eq]
  show e_tv E_C (E_V 274) e_t274_1116 [0, 8, 192, 213, i, x5, x6, x7] M = _
  unfold e_t274_1116
  simp [zq_a, zq_b, zq_c, zq_d, zq_e, zq_f, zq_g, zq_h, zq_i, zq_j, zq_k, zq_l, zq_m, zq_n, zq_o, zq_p, zq_q, zq_r, zq_s, zq_t, zq_u, zq_v, zq_w, zq_x, zq_y, zq_z, zq_A, zq_B, zq_C, zq_D, zq_E, zq_F, zq_G, zq_H, zq_I, zq_J, zq_K, zq_L, ↓zq_M, ↓zq_N, ↓zq_O, ↓zq_P, ↓zq_Q, ↓zq_R, zq_S, zq_T, zq_U, zq_V, zq_W, zq_X, zq_Y, zq_Z, zq_0, zq_1, zq_2, zq_3, zq_4, zq_5, ↓zq_6, ↓zq_7, ↓zq_8, ↓zq_9, ↓zq_aa, zq_ab, zq_ac, zq_ad, zq_ae, zq_af, zq_ag, ↓zq_ah, ↓zq_ai, ↓zq_aj, zq_ak, ↓zq_al, ↓zq_am, e_b1, e_b2, x_o1, x_o2, w1, l1, m1, w2, l2, m2, k1, k2]
/-- washed -/
theorem l_c22 {n i x5 x6 x7 : Int} {M : EM} (hi : 0 ≤ i ∧ i + 6 ≤ n ∧ n ≤ 3072) (hJ : r_J M) (hRD : h_RD M) (hn : M 5 1 = n) (hv : e_bit (fun x y => x &&& y) (M 0 i.toNat) 63 = 22) : ∃ y5 y6 y7 M1, E_V 274 23 [0, 8, 192, 213, i, x5, x6, x7] M = E_V 274 1903 [0, 8, 192, 213, i, y5, y6, y7] M1 ∧ l_st M M1 ∧ h_RD M1 := by
  obtain ⟨⟨hR, hQ⟩, hZ⟩ := hRD
  have hd := l_head (x5 := x5) (x6 := x6) (x7 := x7) hi hn
  rw [hv] at hd
  have hd2 : E_V 274 23 [0, 8, 192, 213, i, x5, x6, x7] M = E_V 274 1153 [0, 8, 192, 213, i, x5, x6, x7] M := hd
  have w1 : e_w (i + 1) = i + 1 := a_w_id (by omega) (by omega)
  have l1 := l_rd (n := n) (j := i + 1) hn (by omega) (by omega)
  have v1 := l_32 hJ (i + 1).toNat
  have w2 : e_w (i + 2) = i + 2 := a_w_id (by omega) (by omega)
  have l2 := l_rd (n := n) (j := i + 2) hn (by omega) (by omega)
  have v2 := l_32 hJ (i + 2).toNat
  have w3 : e_w (i + 3) = i + 3 := a_w_id (by omega) (by omega)
  have l3 := l_rd (n := n) (j := i + 3) hn (by omega) (by omega)
  have v3 := l_32 hJ (i + 3).toNat
  obtain ⟨r1, M1, k1, -, q3, q4⟩ := a_entry a_c126 (as := [8, M 0 (i + 1).toNat, M 0 (i + 2).toNat, M 0 (i + 3).toNat]) (M := M) ⟨List.mem_cons_self, a_gi v1.1 v1.2, a_gi v2.1 v2.2, a_gi v3.1 v3.2, trivial⟩ hJ.1
  have t1 := l_cl hJ q3 q4 (by decide +kernel)
  have s1 := l_s0_st t1
  have e1 := s1.2.1
  have J1 := s1.1
  have n1 : M1 5 1 = n := s1.2.2.1.trans hn
  have m1 : e_op 60 [0, i + 1] M1 = some (M 0 (i + 1).toNat) := (l_rd n1 (by omega) (by omega)).trans (congrArg some (e1 _))
  have m2 : e_op 60 [0, i + 2] M1 = some (M 0 (i + 2).toNat) := (l_rd n1 (by omega) (by omega)).trans (congrArg some (e1 _))
  have m3 : e_op 60 [0, i + 3] M1 = some (M 0 (i + 3).toNat) := (l_rd n1 (by omega) (by omega)).trans (congrArg some (e1 _))
  have hr : r_T [] 237 [192, M 0 (i + 1).toNat, M 0 (i + 2).toNat, M 0 (i + 3).toNat] M1 := r_Tq J1 (r_washed J1)
  obtain ⟨r2, M2, k2, s2, f2⟩ := l_rfF hr (by decide +kernel)
  have RR : h_R M2 := ⟨p_keep (by decide +kernel) (by decide +kernel) f2 (p_keep (by decide +kernel) (by decide +kernel) q4 hR.1), h_keB (by decide +kernel) f2 (h_keB (by decide +kernel) q4 hR.2.1), h_keI (by decide +kernel) f2 (h_keI (by decide +kernel) q4 hR.2.2.1), h_keS (by decide +kernel) f2 (h_keS (by decide +kernel) q4 hR.2.2.2.1), h_keF (by decide +kernel) f2 (h_keF (by decide +kernel) q4 hR.2.2.2.2)⟩
  have RQ : h_Q M2 := ⟨h_ke1 (by decide +kernel) f2 (h_ke1 (by decide +kernel) q4 hQ.1), h_keC (by decide +kernel) f2 (h_keB (by decide +kernel) q4 hR.2.1) (h_keC (by decide +kernel) q4 hR.2.1 hQ.2.1), h_keCI (by decide +kernel) f2 (h_keI (by decide +kernel) q4 hR.2.2.1) (h_keCI (by decide +kernel) q4 hR.2.2.1 hQ.2.2.1), h_keK (by decide +kernel) f2 (h_keK (by decide +kernel) q4 hQ.2.2.2.1), h_keKI (by decide +kernel) f2 (h_keKI (by decide +kernel) q4 hQ.2.2.2.2)⟩
  have K1 : rx_K M1 := hd_KW (by decide +kernel) q4 hZ.2.2.1
  have RZ : h_Z M2 := ⟨hd_ke (by decide +kernel) f2 (h_keB (by decide +kernel) q4 hR.2.1) (hd_ke (by decide +kernel) q4 hR.2.1 hZ.1), hd_keI (by decide +kernel) f2 (h_keI (by decide +kernel) q4 hR.2.2.1) (hd_keI (by decide +kernel) q4 hR.2.2.1 hZ.2.1), rx_Kc (by decide) k2 K1, hd_0 (by decide +kernel) f2 (hd_0 (by decide +kernel) q4 hZ.2.2.2)⟩
  refine ⟨x5, x6, x7, M2, hd2.trans ?_, l_st_s0 s1 s2, ⟨⟨RR, RQ⟩, RZ⟩⟩
  rw [E_V_eq]
  show e_tv E_C (E_V 274) e_t274_1153 [0, 8, 192, 213, i, x5, x6, x7] M = _
  unfold e_t274_1153
  simp [zq_a, zq_b, zq_c, zq_d, zq_e, zq_f, zq_g, zq_h, zq_i, zq_j, zq_k, zq_l, zq_m, zq_n, zq_o, zq_p, zq_q, zq_r, zq_s, zq_t, zq_u, zq_v, zq_w, zq_x, zq_y, zq_z, zq_A, zq_B, zq_C, zq_D, zq_E, zq_F, zq_G, zq_H, zq_I, zq_J, zq_K, zq_L, ↓zq_M, ↓zq_N, ↓zq_O, ↓zq_P, ↓zq_Q, ↓zq_R, zq_S, zq_T, zq_U, zq_V, zq_W, zq_X, zq_Y, zq_Z, zq_0, zq_1, zq_2, zq_3, zq_4, zq_5, ↓zq_6, ↓zq_7, ↓zq_8, ↓zq_9, ↓zq_aa, zq_ab, zq_ac, zq_ad, zq_ae, zq_af, zq_ag, ↓zq_ah, ↓zq_ai, ↓zq_aj, zq_ak, ↓zq_al, ↓zq_am, e_b1, e_b2, x_o1, x_o2, w1, l1, m1, w2, l2, m2, w3, l3, m3, k1, k2]
/-- parting -/
theorem l_c23 {n i x5 x6 x7 : Int} {M : EM} (hi : 0 ≤ i ∧ i + 6 ≤ n ∧ n ≤ 3072) (hJ : r_J M) (hRD : h_RD M) (hn : M 5 1 = n) (hv : e_bit (fun x y => x &&& y) (M 0 i.toNat) 63 = 23) : ∃ y5 y6 y7 M1, E_V 274 23 [0, 8, 192, 213, i, x5, x6, x7] M = E_V 274 1903 [0, 8, 192, 213, i, y5, y6, y7] M1 ∧ l_st M M1 ∧ h_RD M1 := by
  obtain ⟨⟨hR, hQ⟩, hZ⟩ := hRD
  have hd := l_head (x5 := x5) (x6 := x6) (x7 := x7) hi hn
  rw [hv] at hd
  have hd2 : E_V 274 23 [0, 8, 192, 213, i, x5, x6, x7] M = E_V 274 1202 [0, 8, 192, 213, i, x5, x6, x7] M := hd
  have w1 : e_w (i + 1) = i + 1 := a_w_id (by omega) (by omega)
  have l1 := l_rd (n := n) (j := i + 1) hn (by omega) (by omega)
  have v1 := l_32 hJ (i + 1).toNat
  have w2 : e_w (i + 2) = i + 2 := a_w_id (by omega) (by omega)
  have l2 := l_rd (n := n) (j := i + 2) hn (by omega) (by omega)
  have v2 := l_32 hJ (i + 2).toNat
  obtain ⟨r1, M1, k1, -, q3, q4⟩ := c_parting (w := M 0 (i + 2).toNat) hJ.1 v1
  have t1 := l_cl hJ q3 q4 (by decide +kernel)
  have s1 := l_s0_st t1
  have e1 := s1.2.1
  have J1 := s1.1
  have n1 : M1 5 1 = n := s1.2.2.1.trans hn
  have m1 : e_op 60 [0, i + 1] M1 = some (M 0 (i + 1).toNat) := (l_rd n1 (by omega) (by omega)).trans (congrArg some (e1 _))
  have m2 : e_op 60 [0, i + 2] M1 = some (M 0 (i + 2).toNat) := (l_rd n1 (by omega) (by omega)).trans (congrArg some (e1 _))
  have hr : r_T [] 240 [192, M 0 (i + 1).toNat, M 0 (i + 2).toNat] M1 := r_Tq J1 (r_parting J1)
  obtain ⟨r2, M2, k2, s2, f2⟩ := l_rfF hr (by decide +kernel)
  have RR : h_R M2 := ⟨p_keep (by decide +kernel) (by decide +kernel) f2 (p_keep (by decide +kernel) (by decide +kernel) q4 hR.1), h_keB (by decide +kernel) f2 (h_keB (by decide +kernel) q4 hR.2.1), h_keI (by decide +kernel) f2 (h_keI (by decide +kernel) q4 hR.2.2.1), h_keS (by decide +kernel) f2 (h_keS (by decide +kernel) q4 hR.2.2.2.1), h_keF (by decide +kernel) f2 (h_keF (by decide +kernel) q4 hR.2.2.2.2)⟩
  have RQ : h_Q M2 := ⟨h_ke1 (by decide +kernel) f2 (h_ke1 (by decide +kernel) q4 hQ.1), h_keC (by decide +kernel) f2 (h_keB (by decide +kernel) q4 hR.2.1) (h_keC (by decide +kernel) q4 hR.2.1 hQ.2.1), h_keCI (by decide +kernel) f2 (h_keI (by decide +kernel) q4 hR.2.2.1) (h_keCI (by decide +kernel) q4 hR.2.2.1 hQ.2.2.1), h_keK (by decide +kernel) f2 (h_keK (by decide +kernel) q4 hQ.2.2.2.1), h_keKI (by decide +kernel) f2 (h_keKI (by decide +kernel) q4 hQ.2.2.2.2)⟩
  have K1 : rx_K M1 := hd_KW (by decide +kernel) q4 hZ.2.2.1
  have RZ : h_Z M2 := ⟨hd_ke (by decide +kernel) f2 (h_keB (by decide +kernel) q4 hR.2.1) (hd_ke (by decide +kernel) q4 hR.2.1 hZ.1), hd_keI (by decide +kernel) f2 (h_keI (by decide +kernel) q4 hR.2.2.1) (hd_keI (by decide +kernel) q4 hR.2.2.1 hZ.2.1), rx_Kc (by decide) k2 K1, hd_0 (by decide +kernel) f2 (hd_0 (by decide +kernel) q4 hZ.2.2.2)⟩
  have hT := (⟨ax_parting (hd_Rall hR hQ hZ) hR.2.2.2.1 hJ J1 K1 (h_cG q4 (by decide +kernel)) k1 k2, trivial⟩ : r1 = r2 ∧ True)
  rw [hT.1] at k1
  refine ⟨x5, x6, x7, M2, hd2.trans ?_, l_st_s0 s1 s2, ⟨⟨RR, RQ⟩, RZ⟩⟩
  rw [E_V_eq]
  show e_tv E_C (E_V 274) e_t274_1202 [0, 8, 192, 213, i, x5, x6, x7] M = _
  unfold e_t274_1202
  simp [zq_a, zq_b, zq_c, zq_d, zq_e, zq_f, zq_g, zq_h, zq_i, zq_j, zq_k, zq_l, zq_m, zq_n, zq_o, zq_p, zq_q, zq_r, zq_s, zq_t, zq_u, zq_v, zq_w, zq_x, zq_y, zq_z, zq_A, zq_B, zq_C, zq_D, zq_E, zq_F, zq_G, zq_H, zq_I, zq_J, zq_K, zq_L, ↓zq_M, ↓zq_N, ↓zq_O, ↓zq_P, ↓zq_Q, ↓zq_R, zq_S, zq_T, zq_U, zq_V, zq_W, zq_X, zq_Y, zq_Z, zq_0, zq_1, zq_2, zq_3, zq_4, zq_5, ↓zq_6, ↓zq_7, ↓zq_8, ↓zq_9, ↓zq_aa, zq_ab, zq_ac, zq_ad, zq_ae, zq_af, zq_ag, ↓zq_ah, ↓zq_ai, ↓zq_aj, zq_ak, ↓zq_al, ↓zq_am, e_b1, e_b2, x_o1, x_o2, w1, l1, m1, w2, l2, m2, k1, k2]
/-- trade -/
theorem l_c24 {n i x5 x6 x7 : Int} {M : EM} (hi : 0 ≤ i ∧ i + 6 ≤ n ∧ n ≤ 3072) (hJ : r_J M) (hRD : h_RD M) (hn : M 5 1 = n) (hv : e_bit (fun x y => x &&& y) (M 0 i.toNat) 63 = 24) : ∃ y5 y6 y7 M1, E_V 274 23 [0, 8, 192, 213, i, x5, x6, x7] M = E_V 274 1903 [0, 8, 192, 213, i, y5, y6, y7] M1 ∧ l_st M M1 ∧ h_RD M1 := by
  obtain ⟨⟨hR, hQ⟩, hZ⟩ := hRD
  have hd := l_head (x5 := x5) (x6 := x6) (x7 := x7) hi hn
  rw [hv] at hd
  have hd2 : E_V 274 23 [0, 8, 192, 213, i, x5, x6, x7] M = E_V 274 1239 [0, 8, 192, 213, i, x5, x6, x7] M := hd
  have w1 : e_w (i + 1) = i + 1 := a_w_id (by omega) (by omega)
  have l1 := l_rd (n := n) (j := i + 1) hn (by omega) (by omega)
  have v1 := l_32 hJ (i + 1).toNat
  have w2 : e_w (i + 2) = i + 2 := a_w_id (by omega) (by omega)
  have l2 := l_rd (n := n) (j := i + 2) hn (by omega) (by omega)
  have v2 := l_32 hJ (i + 2).toNat
  obtain ⟨r1, M1, k1, -, q3, q4⟩ := a_entry a_c128 (as := [8, M 0 (i + 1).toNat, M 0 (i + 2).toNat]) (M := M) ⟨List.mem_cons_self, a_gi v1.1 v1.2, a_gi v2.1 v2.2, trivial⟩ hJ.1
  have t1 := l_cl hJ q3 q4 (by decide +kernel)
  have s1 := l_s0_st t1
  have e1 := s1.2.1
  have J1 := s1.1
  have n1 : M1 5 1 = n := s1.2.2.1.trans hn
  have m1 : e_op 60 [0, i + 1] M1 = some (M 0 (i + 1).toNat) := (l_rd n1 (by omega) (by omega)).trans (congrArg some (e1 _))
  have m2 : e_op 60 [0, i + 2] M1 = some (M 0 (i + 2).toNat) := (l_rd n1 (by omega) (by omega)).trans (congrArg some (e1 _))
  have hr : r_T r_wT 241 [192, M 0 (i + 1).toNat, M 0 (i + 2).toNat] M1 := r_trade J1 v2.2
  obtain ⟨r2, M2, k2, s2, f2⟩ := l_rfF hr (by decide +kernel)
  obtain ⟨r, N1, N2, kk1, kk2, RR0⟩ := p_trade_R v2.2 hR.1
  have p1 := Prod.mk.inj (Option.some.inj (k1.symm.trans kk1))
  obtain ⟨u1, u2⟩ := p1
  subst u2
  have p2 := Prod.mk.inj (Option.some.inj (k2.symm.trans kk2))
  obtain ⟨u3, u4⟩ := p2
  subst u4
  have RR : h_R M2 := ⟨RR0, h_keB (by decide +kernel) f2 (h_keB (by decide +kernel) q4 hR.2.1), h_keI (by decide +kernel) f2 (h_keI (by decide +kernel) q4 hR.2.2.1), h_keS (by decide +kernel) f2 (h_keS (by decide +kernel) q4 hR.2.2.2.1), h_keF (by decide +kernel) f2 (h_keF (by decide +kernel) q4 hR.2.2.2.2)⟩
  have RQ : h_Q M2 := ⟨h_ke1 (by decide +kernel) f2 (h_ke1 (by decide +kernel) q4 hQ.1), h_keC (by decide +kernel) f2 (h_keB (by decide +kernel) q4 hR.2.1) (h_keC (by decide +kernel) q4 hR.2.1 hQ.2.1), h_keCI (by decide +kernel) f2 (h_keI (by decide +kernel) q4 hR.2.2.1) (h_keCI (by decide +kernel) q4 hR.2.2.1 hQ.2.2.1), h_keK (by decide +kernel) f2 (h_keK (by decide +kernel) q4 hQ.2.2.2.1), h_keKI (by decide +kernel) f2 (h_keKI (by decide +kernel) q4 hQ.2.2.2.2)⟩
  have K1 : rx_K M1 := hd_KW (by decide +kernel) q4 hZ.2.2.1
  have RZ : h_Z M2 := ⟨hd_ke (by decide +kernel) f2 (h_keB (by decide +kernel) q4 hR.2.1) (hd_ke (by decide +kernel) q4 hR.2.1 hZ.1), hd_keI (by decide +kernel) f2 (h_keI (by decide +kernel) q4 hR.2.2.1) (hd_keI (by decide +kernel) q4 hR.2.2.1 hZ.2.1), rx_Kc (by decide) k2 K1, hd_0 (by decide +kernel) f2 (hd_0 (by decide +kernel) q4 hZ.2.2.2)⟩
  refine ⟨x5, x6, x7, M2, hd2.trans ?_, l_st_s0 s1 s2, ⟨⟨RR, RQ⟩, RZ⟩⟩
  rw [E_V_eq]
  show e_tv E_C (E_V 274) e_t274_1239 [0, 8, 192, 213, i, x5, x6, x7] M = _
  unfold e_t274_1239
  simp [zq_a, zq_b, zq_c, zq_d, zq_e, zq_f, zq_g, zq_h, zq_i, zq_j, zq_k, zq_l, zq_m, zq_n, zq_o, zq_p, zq_q, zq_r, zq_s, zq_t, zq_u, zq_v, zq_w, zq_x, zq_y, zq_z, zq_A, zq_B, zq_C, zq_D, zq_E, zq_F, zq_G, zq_H, zq_I, zq_J, zq_K, zq_L, ↓zq_M, ↓zq_N, ↓zq_O, ↓zq_P, ↓zq_Q, ↓zq_R, zq_S, zq_T, zq_U, zq_V, zq_W, zq_X, zq_Y, zq_Z, zq_0, zq_1, zq_2, zq_3, zq_4, zq_5, ↓zq_6, ↓zq_7, ↓zq_8, ↓zq_9, ↓zq_aa, zq_ab, zq_ac, zq_ad, zq_ae, zq_af, zq_ag, ↓zq_ah, ↓zq_ai, ↓zq_aj, zq_ak, ↓zq_al, ↓zq_am, e_b1, e_b2, x_o1, x_o2, w1, l1, m1, w2, l2, m2, k1, k2]
/-- room -/
theorem l_c25 {n i x5 x6 x7 : Int} {M : EM} (hi : 0 ≤ i ∧ i + 6 ≤ n ∧ n ≤ 3072) (hJ : r_J M) (hRD : h_RD M) (hn : M 5 1 = n) (hv : e_bit (fun x y => x &&& y) (M 0 i.toNat) 63 = 25) : ∃ y5 y6 y7 M1, E_V 274 23 [0, 8, 192, 213, i, x5, x6, x7] M = E_V 274 1903 [0, 8, 192, 213, i, y5, y6, y7] M1 ∧ l_st M M1 ∧ h_RD M1 := by
  obtain ⟨⟨hR, hQ⟩, hZ⟩ := hRD
  have hd := l_head (x5 := x5) (x6 := x6) (x7 := x7) hi hn
  rw [hv] at hd
  have hd2 : E_V 274 23 [0, 8, 192, 213, i, x5, x6, x7] M = E_V 274 1276 [0, 8, 192, 213, i, x5, x6, x7] M := hd
  have w1 : e_w (i + 1) = i + 1 := a_w_id (by omega) (by omega)
  have l1 := l_rd (n := n) (j := i + 1) hn (by omega) (by omega)
  have v1 := l_32 hJ (i + 1).toNat
  obtain ⟨r1, M1, k1, -, q3, q4⟩ := a_entry a_c129 (as := [8, M 0 (i + 1).toNat]) (M := M) ⟨List.mem_cons_self, a_gi v1.1 v1.2, trivial⟩ hJ.1
  have t1 := l_cl hJ q3 q4 (by decide +kernel)
  have s1 := l_s0_st t1
  have e1 := s1.2.1
  have J1 := s1.1
  have n1 : M1 5 1 = n := s1.2.2.1.trans hn
  have m1 : e_op 60 [0, i + 1] M1 = some (M 0 (i + 1).toNat) := (l_rd n1 (by omega) (by omega)).trans (congrArg some (e1 _))
  have hr : r_T r_wR 242 [192, M 0 (i + 1).toNat] M1 := r_room J1
  obtain ⟨r2, M2, k2, s2, f2⟩ := l_rfF hr (by decide +kernel)
  obtain ⟨r, N1, N2, kk1, kk2, RR0⟩ := p_room_R hR.1
  have p1 := Prod.mk.inj (Option.some.inj (k1.symm.trans kk1))
  obtain ⟨u1, u2⟩ := p1
  subst u2
  have p2 := Prod.mk.inj (Option.some.inj (k2.symm.trans kk2))
  obtain ⟨u3, u4⟩ := p2
  subst u4
  have RR : h_R M2 := ⟨RR0, h_keB (by decide +kernel) f2 (h_keB (by decide +kernel) q4 hR.2.1), h_keI (by decide +kernel) f2 (h_keI (by decide +kernel) q4 hR.2.2.1), h_keS (by decide +kernel) f2 (h_keS (by decide +kernel) q4 hR.2.2.2.1), h_keF (by decide +kernel) f2 (h_keF (by decide +kernel) q4 hR.2.2.2.2)⟩
  have RQ : h_Q M2 := ⟨h_ke1 (by decide +kernel) f2 (h_ke1 (by decide +kernel) q4 hQ.1), h_keC (by decide +kernel) f2 (h_keB (by decide +kernel) q4 hR.2.1) (h_keC (by decide +kernel) q4 hR.2.1 hQ.2.1), h_keCI (by decide +kernel) f2 (h_keI (by decide +kernel) q4 hR.2.2.1) (h_keCI (by decide +kernel) q4 hR.2.2.1 hQ.2.2.1), h_keK (by decide +kernel) f2 (h_keK (by decide +kernel) q4 hQ.2.2.2.1), h_keKI (by decide +kernel) f2 (h_keKI (by decide +kernel) q4 hQ.2.2.2.2)⟩
  have K1 : rx_K M1 := hd_KW (by decide +kernel) q4 hZ.2.2.1
  have RZ : h_Z M2 := ⟨hd_ke (by decide +kernel) f2 (h_keB (by decide +kernel) q4 hR.2.1) (hd_ke (by decide +kernel) q4 hR.2.1 hZ.1), hd_keI (by decide +kernel) f2 (h_keI (by decide +kernel) q4 hR.2.2.1) (hd_keI (by decide +kernel) q4 hR.2.2.1 hZ.2.1), rx_Kc (by decide) k2 K1, hd_0 (by decide +kernel) f2 (hd_0 (by decide +kernel) q4 hZ.2.2.2)⟩
  refine ⟨x5, x6, x7, M2, hd2.trans ?_, l_st_s0 s1 s2, ⟨⟨RR, RQ⟩, RZ⟩⟩
  rw [E_V_eq]
  show e_tv E_C (E_V 274) e_t274_1276 [0, 8, 192, 213, i, x5, x6, x7] M = _
  unfold e_t274_1276
  simp [zq_a, zq_b, zq_c, zq_d, zq_e, zq_f, zq_g, zq_h, zq_i, zq_j, zq_k, zq_l, zq_m, zq_n, zq_o, zq_p, zq_q, zq_r, zq_s, zq_t, zq_u, zq_v, zq_w, zq_x, zq_y, zq_z, zq_A, zq_B, zq_C, zq_D, zq_E, zq_F, zq_G, zq_H, zq_I, zq_J, zq_K, zq_L, ↓zq_M, ↓zq_N, ↓zq_O, ↓zq_P, ↓zq_Q, ↓zq_R, zq_S, zq_T, zq_U, zq_V, zq_W, zq_X, zq_Y, zq_Z, zq_0, zq_1, zq_2, zq_3, zq_4, zq_5, ↓zq_6, ↓zq_7, ↓zq_8, ↓zq_9, ↓zq_aa, zq_ab, zq_ac, zq_ad, zq_ae, zq_af, zq_ag, ↓zq_ah, ↓zq_ai, ↓zq_aj, zq_ak, ↓zq_al, ↓zq_am, e_b1, e_b2, x_o1, x_o2, w1, l1, m1, k1, k2]
/-- sells -/
theorem l_c26 {n i x5 x6 x7 : Int} {M : EM} (hi : 0 ≤ i ∧ i + 6 ≤ n ∧ n ≤ 3072) (hJ : r_J M) (hRD : h_RD M) (hn : M 5 1 = n) (hv : e_bit (fun x y => x &&& y) (M 0 i.toNat) 63 = 26) : ∃ y5 y6 y7 M1, E_V 274 23 [0, 8, 192, 213, i, x5, x6, x7] M = E_V 274 1903 [0, 8, 192, 213, i, y5, y6, y7] M1 ∧ l_st M M1 ∧ h_RD M1 := by
  obtain ⟨⟨hR, hQ⟩, hZ⟩ := hRD
  have hd := l_head (x5 := x5) (x6 := x6) (x7 := x7) hi hn
  rw [hv] at hd
  have hd2 : E_V 274 23 [0, 8, 192, 213, i, x5, x6, x7] M = E_V 274 1301 [0, 8, 192, 213, i, x5, x6, x7] M := hd
  have w1 : e_w (i + 1) = i + 1 := a_w_id (by omega) (by omega)
  have l1 := l_rd (n := n) (j := i + 1) hn (by omega) (by omega)
  have v1 := l_32 hJ (i + 1).toNat
  obtain ⟨r1, M1, k1, -, q3, q4⟩ := a_entry a_c130 (as := [8, M 0 (i + 1).toNat]) (M := M) ⟨List.mem_cons_self, a_gi v1.1 v1.2, trivial⟩ hJ.1
  have t1 := l_cl hJ q3 q4 (by decide +kernel)
  have s1 := l_s0_st t1
  have e1 := s1.2.1
  have J1 := s1.1
  have n1 : M1 5 1 = n := s1.2.2.1.trans hn
  have m1 : e_op 60 [0, i + 1] M1 = some (M 0 (i + 1).toNat) := (l_rd n1 (by omega) (by omega)).trans (congrArg some (e1 _))
  have hr : r_T [] 244 [192, M 0 (i + 1).toNat] M1 := r_Tq J1 (r_sells J1)
  obtain ⟨r2, M2, k2, s2, f2⟩ := l_rfF hr (by decide +kernel)
  have RR : h_R M2 := ⟨p_keep (by decide +kernel) (by decide +kernel) f2 (p_keep (by decide +kernel) (by decide +kernel) q4 hR.1), h_keB (by decide +kernel) f2 (h_keB (by decide +kernel) q4 hR.2.1), h_keI (by decide +kernel) f2 (h_keI (by decide +kernel) q4 hR.2.2.1), h_keS (by decide +kernel) f2 (h_keS (by decide +kernel) q4 hR.2.2.2.1), h_keF (by decide +kernel) f2 (h_keF (by decide +kernel) q4 hR.2.2.2.2)⟩
  have RQ : h_Q M2 := ⟨h_ke1 (by decide +kernel) f2 (h_ke1 (by decide +kernel) q4 hQ.1), h_keC (by decide +kernel) f2 (h_keB (by decide +kernel) q4 hR.2.1) (h_keC (by decide +kernel) q4 hR.2.1 hQ.2.1), h_keCI (by decide +kernel) f2 (h_keI (by decide +kernel) q4 hR.2.2.1) (h_keCI (by decide +kernel) q4 hR.2.2.1 hQ.2.2.1), h_keK (by decide +kernel) f2 (h_keK (by decide +kernel) q4 hQ.2.2.2.1), h_keKI (by decide +kernel) f2 (h_keKI (by decide +kernel) q4 hQ.2.2.2.2)⟩
  have K1 : rx_K M1 := hd_KW (by decide +kernel) q4 hZ.2.2.1
  have RZ : h_Z M2 := ⟨hd_ke (by decide +kernel) f2 (h_keB (by decide +kernel) q4 hR.2.1) (hd_ke (by decide +kernel) q4 hR.2.1 hZ.1), hd_keI (by decide +kernel) f2 (h_keI (by decide +kernel) q4 hR.2.2.1) (hd_keI (by decide +kernel) q4 hR.2.2.1 hZ.2.1), rx_Kc (by decide) k2 K1, hd_0 (by decide +kernel) f2 (hd_0 (by decide +kernel) q4 hZ.2.2.2)⟩
  refine ⟨x5, x6, x7, M2, hd2.trans ?_, l_st_s0 s1 s2, ⟨⟨RR, RQ⟩, RZ⟩⟩
  rw [E_V_eq]
  show e_tv E_C (E_V 274) e_t274_1301 [0, 8, 192, 213, i, x5, x6, x7] M = _
  unfold e_t274_1301
  simp [zq_a, zq_b, zq_c, zq_d, zq_e, zq_f, zq_g, zq_h, zq_i, zq_j, zq_k, zq_l, zq_m, zq_n, zq_o, zq_p, zq_q, zq_r, zq_s, zq_t, zq_u, zq_v, zq_w, zq_x, zq_y, zq_z, zq_A, zq_B, zq_C, zq_D, zq_E, zq_F, zq_G, zq_H, zq_I, zq_J, zq_K, zq_L, ↓zq_M, ↓zq_N, ↓zq_O, ↓zq_P, ↓zq_Q, ↓zq_R, zq_S, zq_T, zq_U, zq_V, zq_W, zq_X, zq_Y, zq_Z, zq_0, zq_1, zq_2, zq_3, zq_4, zq_5, ↓zq_6, ↓zq_7, ↓zq_8, ↓zq_9, ↓zq_aa, zq_ab, zq_ac, zq_ad, zq_ae, zq_af, zq_ag, ↓zq_ah, ↓zq_ai, ↓zq_aj, zq_ak, ↓zq_al, ↓zq_am, e_b1, e_b2, x_o1, x_o2, w1, l1, m1, k1, k2]
/-- without -/
theorem l_c27 {n i x5 x6 x7 : Int} {M : EM} (hi : 0 ≤ i ∧ i + 6 ≤ n ∧ n ≤ 3072) (hJ : r_J M) (hRD : h_RD M) (hn : M 5 1 = n) (hv : e_bit (fun x y => x &&& y) (M 0 i.toNat) 63 = 27) : ∃ y5 y6 y7 M1, E_V 274 23 [0, 8, 192, 213, i, x5, x6, x7] M = E_V 274 1903 [0, 8, 192, 213, i, y5, y6, y7] M1 ∧ l_st M M1 ∧ h_RD M1 := by
  obtain ⟨⟨hR, hQ⟩, hZ⟩ := hRD
  have hd := l_head (x5 := x5) (x6 := x6) (x7 := x7) hi hn
  rw [hv] at hd
  have hd2 : E_V 274 23 [0, 8, 192, 213, i, x5, x6, x7] M = E_V 274 1326 [0, 8, 192, 213, i, x5, x6, x7] M := hd
  have w1 : e_w (i + 1) = i + 1 := a_w_id (by omega) (by omega)
  have l1 := l_rd (n := n) (j := i + 1) hn (by omega) (by omega)
  have v1 := l_32 hJ (i + 1).toNat
  have w2 : e_w (i + 2) = i + 2 := a_w_id (by omega) (by omega)
  have l2 := l_rd (n := n) (j := i + 2) hn (by omega) (by omega)
  have v2 := l_32 hJ (i + 2).toNat
  obtain ⟨r1, M1, k1, -, q3, q4⟩ := a_entry a_c131 (as := [8, M 0 (i + 1).toNat, M 0 (i + 2).toNat]) (M := M) ⟨List.mem_cons_self, a_gi v1.1 v1.2, a_gi v2.1 v2.2, trivial⟩ hJ.1
  have t1 := l_cl hJ q3 q4 (by decide +kernel)
  have s1 := l_s0_st t1
  have e1 := s1.2.1
  have J1 := s1.1
  have n1 : M1 5 1 = n := s1.2.2.1.trans hn
  have m1 : e_op 60 [0, i + 1] M1 = some (M 0 (i + 1).toNat) := (l_rd n1 (by omega) (by omega)).trans (congrArg some (e1 _))
  have m2 : e_op 60 [0, i + 2] M1 = some (M 0 (i + 2).toNat) := (l_rd n1 (by omega) (by omega)).trans (congrArg some (e1 _))
  have hr : r_T [] 246 [192, M 0 (i + 1).toNat, M 0 (i + 2).toNat] M1 := r_Tq J1 (r_without J1)
  obtain ⟨r2, M2, k2, s2, f2⟩ := l_rfF hr (by decide +kernel)
  have RR : h_R M2 := ⟨p_keep (by decide +kernel) (by decide +kernel) f2 (p_keep (by decide +kernel) (by decide +kernel) q4 hR.1), h_keB (by decide +kernel) f2 (h_keB (by decide +kernel) q4 hR.2.1), h_keI (by decide +kernel) f2 (h_keI (by decide +kernel) q4 hR.2.2.1), h_keS (by decide +kernel) f2 (h_keS (by decide +kernel) q4 hR.2.2.2.1), h_keF (by decide +kernel) f2 (h_keF (by decide +kernel) q4 hR.2.2.2.2)⟩
  have RQ : h_Q M2 := ⟨h_ke1 (by decide +kernel) f2 (h_ke1 (by decide +kernel) q4 hQ.1), h_keC (by decide +kernel) f2 (h_keB (by decide +kernel) q4 hR.2.1) (h_keC (by decide +kernel) q4 hR.2.1 hQ.2.1), h_keCI (by decide +kernel) f2 (h_keI (by decide +kernel) q4 hR.2.2.1) (h_keCI (by decide +kernel) q4 hR.2.2.1 hQ.2.2.1), h_keK (by decide +kernel) f2 (h_keK (by decide +kernel) q4 hQ.2.2.2.1), h_keKI (by decide +kernel) f2 (h_keKI (by decide +kernel) q4 hQ.2.2.2.2)⟩
  have K1 : rx_K M1 := hd_KW (by decide +kernel) q4 hZ.2.2.1
  have RZ : h_Z M2 := ⟨hd_ke (by decide +kernel) f2 (h_keB (by decide +kernel) q4 hR.2.1) (hd_ke (by decide +kernel) q4 hR.2.1 hZ.1), hd_keI (by decide +kernel) f2 (h_keI (by decide +kernel) q4 hR.2.2.1) (hd_keI (by decide +kernel) q4 hR.2.2.1 hZ.2.1), rx_Kw (Or.inl rfl) k2 K1, hd_0 (by decide +kernel) f2 (gz_c (by decide) (by decide) hJ k1 hZ.2.2.2)⟩
  refine ⟨x5, x6, x7, M2, hd2.trans ?_, l_st_s0 s1 s2, ⟨⟨RR, RQ⟩, RZ⟩⟩
  rw [E_V_eq]
  show e_tv E_C (E_V 274) e_t274_1326 [0, 8, 192, 213, i, x5, x6, x7] M = _
  unfold e_t274_1326
  simp [zq_a, zq_b, zq_c, zq_d, zq_e, zq_f, zq_g, zq_h, zq_i, zq_j, zq_k, zq_l, zq_m, zq_n, zq_o, zq_p, zq_q, zq_r, zq_s, zq_t, zq_u, zq_v, zq_w, zq_x, zq_y, zq_z, zq_A, zq_B, zq_C, zq_D, zq_E, zq_F, zq_G, zq_H, zq_I, zq_J, zq_K, zq_L, ↓zq_M, ↓zq_N, ↓zq_O, ↓zq_P, ↓zq_Q, ↓zq_R, zq_S, zq_T, zq_U, zq_V, zq_W, zq_X, zq_Y, zq_Z, zq_0, zq_1, zq_2, zq_3, zq_4, zq_5, ↓zq_6, ↓zq_7, ↓zq_8, ↓zq_9, ↓zq_aa, zq_ab, zq_ac, zq_ad, zq_ae, zq_af, zq_ag, ↓zq_ah, ↓zq_ai, ↓zq_aj, zq_ak, ↓zq_al, ↓zq_am, e_b1, e_b2, x_o1, x_o2, w1, l1, m1, w2, l2, m2, k1, k2]
/-- loss -/
theorem l_c28 {n i x5 x6 x7 : Int} {M : EM} (hi : 0 ≤ i ∧ i + 6 ≤ n ∧ n ≤ 3072) (hJ : r_J M) (hRD : h_RD M) (hn : M 5 1 = n) (hv : e_bit (fun x y => x &&& y) (M 0 i.toNat) 63 = 28) : ∃ y5 y6 y7 M1, E_V 274 23 [0, 8, 192, 213, i, x5, x6, x7] M = E_V 274 1903 [0, 8, 192, 213, i, y5, y6, y7] M1 ∧ l_st M M1 ∧ h_RD M1 := by
  obtain ⟨⟨hR, hQ⟩, hZ⟩ := hRD
  have hd := l_head (x5 := x5) (x6 := x6) (x7 := x7) hi hn
  rw [hv] at hd
  have hd2 : E_V 274 23 [0, 8, 192, 213, i, x5, x6, x7] M = E_V 274 1363 [0, 8, 192, 213, i, x5, x6, x7] M := hd
  have w1 : e_w (i + 1) = i + 1 := a_w_id (by omega) (by omega)
  have l1 := l_rd (n := n) (j := i + 1) hn (by omega) (by omega)
  have v1 := l_32 hJ (i + 1).toNat
  have w2 : e_w (i + 2) = i + 2 := a_w_id (by omega) (by omega)
  have l2 := l_rd (n := n) (j := i + 2) hn (by omega) (by omega)
  have v2 := l_32 hJ (i + 2).toNat
  have w3 : e_w (i + 3) = i + 3 := a_w_id (by omega) (by omega)
  have l3 := l_rd (n := n) (j := i + 3) hn (by omega) (by omega)
  have v3 := l_32 hJ (i + 3).toNat
  obtain ⟨b, hb⟩ : ∃ b : Int, b = if M 0 (i + 3).toNat = 0 then 0 else 1 := ⟨_, rfl⟩
  have hb01 : 0 ≤ b ∧ b ≤ 1 := by
    by_cases c : M 0 (i + 3).toNat = 0
    · rw [if_pos c] at hb; omega
    · rw [if_neg c] at hb; omega
  obtain ⟨r1, M1, k1, s1, q4⟩ := l_lossF (al := b) hJ v1 v2
  have e1 := s1.2.1
  have J1 := s1.1
  have n1 : M1 5 1 = n := s1.2.2.1.trans hn
  have m1 : e_op 60 [0, i + 1] M1 = some (M 0 (i + 1).toNat) := (l_rd n1 (by omega) (by omega)).trans (congrArg some (e1 _))
  have m2 : e_op 60 [0, i + 2] M1 = some (M 0 (i + 2).toNat) := (l_rd n1 (by omega) (by omega)).trans (congrArg some (e1 _))
  have m3 : e_op 60 [0, i + 3] M1 = some (M 0 (i + 3).toNat) := (l_rd n1 (by omega) (by omega)).trans (congrArg some (e1 _))
  have hr : r_T [] 247 [192, M 0 (i + 1).toNat, M 0 (i + 2).toNat, b] M1 := r_Tq J1 (r_loss J1)
  obtain ⟨r2, M2, k2, s2, f2⟩ := l_rfF hr (by decide +kernel)
  have RR : h_R M2 := ⟨p_keep (by decide +kernel) (by decide +kernel) f2 (p_keep (by decide +kernel) (by decide +kernel) q4 hR.1), h_keB (by decide +kernel) f2 (h_keB (by decide +kernel) q4 hR.2.1), h_keI (by decide +kernel) f2 (h_keI (by decide +kernel) q4 hR.2.2.1), h_keS (by decide +kernel) f2 (h_keS (by decide +kernel) q4 hR.2.2.2.1), h_keF (by decide +kernel) f2 (h_keF (by decide +kernel) q4 hR.2.2.2.2)⟩
  have RQ : h_Q M2 := ⟨h_ke1 (by decide +kernel) f2 (h_ke1 (by decide +kernel) q4 hQ.1), h_keC (by decide +kernel) f2 (h_keB (by decide +kernel) q4 hR.2.1) (h_keC (by decide +kernel) q4 hR.2.1 hQ.2.1), h_keCI (by decide +kernel) f2 (h_keI (by decide +kernel) q4 hR.2.2.1) (h_keCI (by decide +kernel) q4 hR.2.2.1 hQ.2.2.1), h_keK (by decide +kernel) f2 (h_keK (by decide +kernel) q4 hQ.2.2.2.1), h_keKI (by decide +kernel) f2 (h_keKI (by decide +kernel) q4 hQ.2.2.2.2)⟩
  have K1 : rx_K M1 := hd_KW (by decide +kernel) q4 hZ.2.2.1
  have RZ : h_Z M2 := ⟨hd_ke (by decide +kernel) f2 (h_keB (by decide +kernel) q4 hR.2.1) (hd_ke (by decide +kernel) q4 hR.2.1 hZ.1), hd_keI (by decide +kernel) f2 (h_keI (by decide +kernel) q4 hR.2.2.1) (hd_keI (by decide +kernel) q4 hR.2.2.1 hZ.2.1), rx_Kw (Or.inr rfl) k2 K1, hd_0 (by decide +kernel) f2 (gz_c (by decide) (by decide) hJ k1 hZ.2.2.2)⟩
  refine ⟨r1, r2, x7, M2, hd2.trans ?_, l_st_s0 s1 s2, ⟨⟨RR, RQ⟩, RZ⟩⟩
  rw [E_V_eq]
  show e_tv E_C (E_V 274) e_t274_1363 [0, 8, 192, 213, i, x5, x6, x7] M = _
  unfold e_t274_1363
  by_cases c : M 0 (i + 3).toNat = 0
  · rw [if_pos c] at hb
    subst hb
    simp [zq_a, zq_b, zq_c, zq_d, zq_e, zq_f, zq_g, zq_h, zq_i, zq_j, zq_k, zq_l, zq_m, zq_n, zq_o, zq_p, zq_q, zq_r, zq_s, zq_t, zq_u, zq_v, zq_w, zq_x, zq_y, zq_z, zq_A, zq_B, zq_C, zq_D, zq_E, zq_F, zq_G, zq_H, zq_I, zq_J, zq_K, zq_L, ↓zq_M, ↓zq_N, ↓zq_O, ↓zq_P, ↓zq_Q, ↓zq_R, zq_S, zq_T, zq_U, zq_V, zq_W, zq_X, zq_Y, zq_Z, zq_0, zq_1, zq_2, zq_3, zq_4, zq_5, ↓zq_6, ↓zq_7, ↓zq_8, ↓zq_9, ↓zq_aa, zq_ab, zq_ac, zq_ad, zq_ae, zq_af, zq_ag, ↓zq_ah, ↓zq_ai, ↓zq_aj, zq_ak, ↓zq_al, ↓zq_am, e_b1, e_b2, x_o1, x_o2, w1, l1, m1, w2, l2, m2, w3, l3, m3, k1, k2, c]
  · rw [if_neg c] at hb
    subst hb
    simp [zq_a, zq_b, zq_c, zq_d, zq_e, zq_f, zq_g, zq_h, zq_i, zq_j, zq_k, zq_l, zq_m, zq_n, zq_o, zq_p, zq_q, zq_r, zq_s, zq_t, zq_u, zq_v, zq_w, zq_x, zq_y, zq_z, zq_A, zq_B, zq_C, zq_D, zq_E, zq_F, zq_G, zq_H, zq_I, zq_J, zq_K, zq_L, ↓zq_M, ↓zq_N, ↓zq_O, ↓zq_P, ↓zq_Q, ↓zq_R, zq_S, zq_T, zq_U, zq_V, zq_W, zq_X, zq_Y, zq_Z, zq_0, zq_1, zq_2, zq_3, zq_4, zq_5, ↓zq_6, ↓zq_7, ↓zq_8, ↓zq_9, ↓zq_aa, zq_ab, zq_ac, zq_ad, zq_ae, zq_af, zq_ag, ↓zq_ah, ↓zq_ai, ↓zq_aj, zq_ak, ↓zq_al, ↓zq_am, e_b1, e_b2, x_o1, x_o2, w1, l1, m1, w2, l2, m2, w3, l3, m3, k1, k2, c]
/-- faults -/
theorem l_c29 {n i x5 x6 x7 : Int} {M : EM} (hi : 0 ≤ i ∧ i + 6 ≤ n ∧ n ≤ 3072) (hJ : r_J M) (hRD : h_RD M) (hn : M 5 1 = n) (hv : e_bit (fun x y => x &&& y) (M 0 i.toNat) 63 = 29) : ∃ y5 y6 y7 M1, E_V 274 23 [0, 8, 192, 213, i, x5, x6, x7] M = E_V 274 1903 [0, 8, 192, 213, i, y5, y6, y7] M1 ∧ l_st M M1 ∧ h_RD M1 := by
  obtain ⟨⟨hR, hQ⟩, hZ⟩ := hRD
  have hd := l_head (x5 := x5) (x6 := x6) (x7 := x7) hi hn
  rw [hv] at hd
  have hd2 : E_V 274 23 [0, 8, 192, 213, i, x5, x6, x7] M = E_V 274 1431 [0, 8, 192, 213, i, x5, x6, x7] M := hd
  have w1 : e_w (i + 1) = i + 1 := a_w_id (by omega) (by omega)
  have l1 := l_rd (n := n) (j := i + 1) hn (by omega) (by omega)
  have v1 := l_32 hJ (i + 1).toNat
  obtain ⟨r1, M1, k1, -, q3, q4⟩ := a_entry a_c133 (as := [8, M 0 (i + 1).toNat]) (M := M) ⟨List.mem_cons_self, a_gi v1.1 v1.2, trivial⟩ hJ.1
  have t1 := l_cl hJ q3 q4 (by decide +kernel)
  have s1 := l_s0_st t1
  have e1 := s1.2.1
  have J1 := s1.1
  have n1 : M1 5 1 = n := s1.2.2.1.trans hn
  have m1 : e_op 60 [0, i + 1] M1 = some (M 0 (i + 1).toNat) := (l_rd n1 (by omega) (by omega)).trans (congrArg some (e1 _))
  have hr : r_T [] 248 [192, M 0 (i + 1).toNat] M1 := r_Tq J1 (r_faults J1)
  obtain ⟨r2, M2, k2, s2, f2⟩ := l_rfF hr (by decide +kernel)
  have RR : h_R M2 := ⟨p_keep (by decide +kernel) (by decide +kernel) f2 (p_keep (by decide +kernel) (by decide +kernel) q4 hR.1), h_keB (by decide +kernel) f2 (h_keB (by decide +kernel) q4 hR.2.1), h_keI (by decide +kernel) f2 (h_keI (by decide +kernel) q4 hR.2.2.1), h_keS (by decide +kernel) f2 (h_keS (by decide +kernel) q4 hR.2.2.2.1), h_keF (by decide +kernel) f2 (h_keF (by decide +kernel) q4 hR.2.2.2.2)⟩
  have RQ : h_Q M2 := ⟨h_ke1 (by decide +kernel) f2 (h_ke1 (by decide +kernel) q4 hQ.1), h_keC (by decide +kernel) f2 (h_keB (by decide +kernel) q4 hR.2.1) (h_keC (by decide +kernel) q4 hR.2.1 hQ.2.1), h_keCI (by decide +kernel) f2 (h_keI (by decide +kernel) q4 hR.2.2.1) (h_keCI (by decide +kernel) q4 hR.2.2.1 hQ.2.2.1), h_keK (by decide +kernel) f2 (h_keK (by decide +kernel) q4 hQ.2.2.2.1), h_keKI (by decide +kernel) f2 (h_keKI (by decide +kernel) q4 hQ.2.2.2.2)⟩
  have K1 : rx_K M1 := hd_KW (by decide +kernel) q4 hZ.2.2.1
  have RZ : h_Z M2 := ⟨hd_ke (by decide +kernel) f2 (h_keB (by decide +kernel) q4 hR.2.1) (hd_ke (by decide +kernel) q4 hR.2.1 hZ.1), hd_keI (by decide +kernel) f2 (h_keI (by decide +kernel) q4 hR.2.2.1) (hd_keI (by decide +kernel) q4 hR.2.2.1 hZ.2.1), rx_Kc (by decide) k2 K1, hd_0 (by decide +kernel) f2 (gz_c (by decide) (by decide) hJ k1 hZ.2.2.2)⟩
  refine ⟨x5, x6, x7, M2, hd2.trans ?_, l_st_s0 s1 s2, ⟨⟨RR, RQ⟩, RZ⟩⟩
  rw [E_V_eq]
  show e_tv E_C (E_V 274) e_t274_1431 [0, 8, 192, 213, i, x5, x6, x7] M = _
  unfold e_t274_1431
  simp [zq_a, zq_b, zq_c, zq_d, zq_e, zq_f, zq_g, zq_h, zq_i, zq_j, zq_k, zq_l, zq_m, zq_n, zq_o, zq_p, zq_q, zq_r, zq_s, zq_t, zq_u, zq_v, zq_w, zq_x, zq_y, zq_z, zq_A, zq_B, zq_C, zq_D, zq_E, zq_F, zq_G, zq_H, zq_I, zq_J, zq_K, zq_L, ↓zq_M, ↓zq_N, ↓zq_O, ↓zq_P, ↓zq_Q, ↓zq_R, zq_S, zq_T, zq_U, zq_V, zq_W, zq_X, zq_Y, zq_Z, zq_0, zq_1, zq_2, zq_3, zq_4, zq_5, ↓zq_6, ↓zq_7, ↓zq_8, ↓zq_9, ↓zq_aa, zq_ab, zq_ac, zq_ad, zq_ae, zq_af, zq_ag, ↓zq_ah, ↓zq_ai, ↓zq_aj, zq_ak, ↓zq_al, ↓zq_am, e_b1, e_b2, x_o1, x_o2, w1, l1, m1, k1, k2]
/-- fits -/
theorem l_c30 {n i x5 x6 x7 : Int} {M : EM} (hi : 0 ≤ i ∧ i + 6 ≤ n ∧ n ≤ 3072) (hJ : r_J M) (hRD : h_RD M) (hn : M 5 1 = n) (hv : e_bit (fun x y => x &&& y) (M 0 i.toNat) 63 = 30) : ∃ y5 y6 y7 M1, E_V 274 23 [0, 8, 192, 213, i, x5, x6, x7] M = E_V 274 1903 [0, 8, 192, 213, i, y5, y6, y7] M1 ∧ l_st M M1 ∧ h_RD M1 := by
  obtain ⟨⟨hR, hQ⟩, hZ⟩ := hRD
  have hd := l_head (x5 := x5) (x6 := x6) (x7 := x7) hi hn
  rw [hv] at hd
  have hd2 : E_V 274 23 [0, 8, 192, 213, i, x5, x6, x7] M = E_V 274 1456 [0, 8, 192, 213, i, x5, x6, x7] M := hd
  have w1 : e_w (i + 1) = i + 1 := a_w_id (by omega) (by omega)
  have l1 := l_rd (n := n) (j := i + 1) hn (by omega) (by omega)
  have v1 := l_32 hJ (i + 1).toNat
  have w2 : e_w (i + 2) = i + 2 := a_w_id (by omega) (by omega)
  have l2 := l_rd (n := n) (j := i + 2) hn (by omega) (by omega)
  have v2 := l_32 hJ (i + 2).toNat
  have w3 : e_w (i + 3) = i + 3 := a_w_id (by omega) (by omega)
  have l3 := l_rd (n := n) (j := i + 3) hn (by omega) (by omega)
  have v3 := l_32 hJ (i + 3).toNat
  obtain ⟨r1, M1, k1, -, q3, q4⟩ := a_entry a_c134 (as := [8, M 0 (i + 1).toNat, M 0 (i + 2).toNat, M 0 (i + 3).toNat]) (M := M) ⟨List.mem_cons_self, a_gi v1.1 v1.2, a_gi v2.1 v2.2, a_gi v3.1 v3.2, trivial⟩ hJ.1
  have t1 := l_cl hJ q3 q4 (by decide +kernel)
  have s1 := l_s0_st t1
  have e1 := s1.2.1
  have J1 := s1.1
  have n1 : M1 5 1 = n := s1.2.2.1.trans hn
  have m1 : e_op 60 [0, i + 1] M1 = some (M 0 (i + 1).toNat) := (l_rd n1 (by omega) (by omega)).trans (congrArg some (e1 _))
  have m2 : e_op 60 [0, i + 2] M1 = some (M 0 (i + 2).toNat) := (l_rd n1 (by omega) (by omega)).trans (congrArg some (e1 _))
  have m3 : e_op 60 [0, i + 3] M1 = some (M 0 (i + 3).toNat) := (l_rd n1 (by omega) (by omega)).trans (congrArg some (e1 _))
  have hr : r_T [] 253 [192, M 0 (i + 1).toNat, M 0 (i + 2).toNat, M 0 (i + 3).toNat] M1 := r_Tq J1 (r_fits J1)
  obtain ⟨r2, M2, k2, s2, f2⟩ := l_rfF hr (by decide +kernel)
  have RR : h_R M2 := ⟨p_keep (by decide +kernel) (by decide +kernel) f2 (p_keep (by decide +kernel) (by decide +kernel) q4 hR.1), h_keB (by decide +kernel) f2 (h_keB (by decide +kernel) q4 hR.2.1), h_keI (by decide +kernel) f2 (h_keI (by decide +kernel) q4 hR.2.2.1), h_keS (by decide +kernel) f2 (h_keS (by decide +kernel) q4 hR.2.2.2.1), h_keF (by decide +kernel) f2 (h_keF (by decide +kernel) q4 hR.2.2.2.2)⟩
  have RQ : h_Q M2 := ⟨h_ke1 (by decide +kernel) f2 (h_ke1 (by decide +kernel) q4 hQ.1), h_keC (by decide +kernel) f2 (h_keB (by decide +kernel) q4 hR.2.1) (h_keC (by decide +kernel) q4 hR.2.1 hQ.2.1), h_keCI (by decide +kernel) f2 (h_keI (by decide +kernel) q4 hR.2.2.1) (h_keCI (by decide +kernel) q4 hR.2.2.1 hQ.2.2.1), h_keK (by decide +kernel) f2 (h_keK (by decide +kernel) q4 hQ.2.2.2.1), h_keKI (by decide +kernel) f2 (h_keKI (by decide +kernel) q4 hQ.2.2.2.2)⟩
  have K1 : rx_K M1 := hd_KW (by decide +kernel) q4 hZ.2.2.1
  have RZ : h_Z M2 := ⟨hd_ke (by decide +kernel) f2 (h_keB (by decide +kernel) q4 hR.2.1) (hd_ke (by decide +kernel) q4 hR.2.1 hZ.1), hd_keI (by decide +kernel) f2 (h_keI (by decide +kernel) q4 hR.2.2.1) (hd_keI (by decide +kernel) q4 hR.2.2.1 hZ.2.1), rx_Kf (Or.inl rfl) k2 K1, hd_0 (by decide +kernel) f2 (gz_c (by decide) (by decide) hJ k1 hZ.2.2.2)⟩
  refine ⟨x5, x6, x7, M2, hd2.trans ?_, l_st_s0 s1 s2, ⟨⟨RR, RQ⟩, RZ⟩⟩
  rw [E_V_eq]
  show e_tv E_C (E_V 274) e_t274_1456 [0, 8, 192, 213, i, x5, x6, x7] M = _
  unfold e_t274_1456
  simp [zq_a, zq_b, zq_c, zq_d, zq_e, zq_f, zq_g, zq_h, zq_i, zq_j, zq_k, zq_l, zq_m, zq_n, zq_o, zq_p, zq_q, zq_r, zq_s, zq_t, zq_u, zq_v, zq_w, zq_x, zq_y, zq_z, zq_A, zq_B, zq_C, zq_D, zq_E, zq_F, zq_G, zq_H, zq_I, zq_J, zq_K, zq_L, ↓zq_M, ↓zq_N, ↓zq_O, ↓zq_P, ↓zq_Q, ↓zq_R, zq_S, zq_T, zq_U, zq_V, zq_W, zq_X, zq_Y, zq_Z, zq_0, zq_1, zq_2, zq_3, zq_4, zq_5, ↓zq_6, ↓zq_7, ↓zq_8, ↓zq_9, ↓zq_aa, zq_ab, zq_ac, zq_ad, zq_ae, zq_af, zq_ag, ↓zq_ah, ↓zq_ai, ↓zq_aj, zq_ak, ↓zq_al, ↓zq_am, e_b1, e_b2, x_o1, x_o2, w1, l1, m1, w2, l2, m2, w3, l3, m3, k1, k2]
/-- look -/
theorem l_c31 {n i x5 x6 x7 : Int} {M : EM} (hi : 0 ≤ i ∧ i + 6 ≤ n ∧ n ≤ 3072) (hJ : r_J M) (hRD : h_RD M) (hn : M 5 1 = n) (hv : e_bit (fun x y => x &&& y) (M 0 i.toNat) 63 = 31) : ∃ y5 y6 y7 M1, E_V 274 23 [0, 8, 192, 213, i, x5, x6, x7] M = E_V 274 1903 [0, 8, 192, 213, i, y5, y6, y7] M1 ∧ l_st M M1 ∧ h_RD M1 := by
  obtain ⟨⟨hR, hQ⟩, hZ⟩ := hRD
  have hd := l_head (x5 := x5) (x6 := x6) (x7 := x7) hi hn
  rw [hv] at hd
  have hd2 : E_V 274 23 [0, 8, 192, 213, i, x5, x6, x7] M = E_V 274 1505 [0, 8, 192, 213, i, x5, x6, x7] M := hd
  have w1 : e_w (i + 1) = i + 1 := a_w_id (by omega) (by omega)
  have l1 := l_rd (n := n) (j := i + 1) hn (by omega) (by omega)
  have v1 := l_32 hJ (i + 1).toNat
  have w2 : e_w (i + 2) = i + 2 := a_w_id (by omega) (by omega)
  have l2 := l_rd (n := n) (j := i + 2) hn (by omega) (by omega)
  have v2 := l_32 hJ (i + 2).toNat
  obtain ⟨r1, M1, k1, -, q3, q4⟩ := a_entry a_c135 (as := [8, M 0 (i + 1).toNat, M 0 (i + 2).toNat]) (M := M) ⟨List.mem_cons_self, a_gi v1.1 v1.2, a_gi v2.1 v2.2, trivial⟩ hJ.1
  have t1 := l_cl hJ q3 q4 (by decide +kernel)
  have s1 := l_s0_st t1
  have e1 := s1.2.1
  have J1 := s1.1
  have n1 : M1 5 1 = n := s1.2.2.1.trans hn
  have m1 : e_op 60 [0, i + 1] M1 = some (M 0 (i + 1).toNat) := (l_rd n1 (by omega) (by omega)).trans (congrArg some (e1 _))
  have m2 : e_op 60 [0, i + 2] M1 = some (M 0 (i + 2).toNat) := (l_rd n1 (by omega) (by omega)).trans (congrArg some (e1 _))
  have hr : r_T [] 254 [192, M 0 (i + 1).toNat, M 0 (i + 2).toNat] M1 := r_Tq J1 (r_look J1)
  obtain ⟨r2, M2, k2, s2, f2⟩ := l_rfF hr (by decide +kernel)
  have RR : h_R M2 := ⟨p_keep (by decide +kernel) (by decide +kernel) f2 (p_keep (by decide +kernel) (by decide +kernel) q4 hR.1), h_keB (by decide +kernel) f2 (h_keB (by decide +kernel) q4 hR.2.1), h_keI (by decide +kernel) f2 (h_keI (by decide +kernel) q4 hR.2.2.1), h_keS (by decide +kernel) f2 (h_keS (by decide +kernel) q4 hR.2.2.2.1), h_keF (by decide +kernel) f2 (h_keF (by decide +kernel) q4 hR.2.2.2.2)⟩
  have RQ : h_Q M2 := ⟨h_ke1 (by decide +kernel) f2 (h_ke1 (by decide +kernel) q4 hQ.1), h_keC (by decide +kernel) f2 (h_keB (by decide +kernel) q4 hR.2.1) (h_keC (by decide +kernel) q4 hR.2.1 hQ.2.1), h_keCI (by decide +kernel) f2 (h_keI (by decide +kernel) q4 hR.2.2.1) (h_keCI (by decide +kernel) q4 hR.2.2.1 hQ.2.2.1), h_keK (by decide +kernel) f2 (h_keK (by decide +kernel) q4 hQ.2.2.2.1), h_keKI (by decide +kernel) f2 (h_keKI (by decide +kernel) q4 hQ.2.2.2.2)⟩
  have K1 : rx_K M1 := hd_KW (by decide +kernel) q4 hZ.2.2.1
  have RZ : h_Z M2 := ⟨hd_ke (by decide +kernel) f2 (h_keB (by decide +kernel) q4 hR.2.1) (hd_ke (by decide +kernel) q4 hR.2.1 hZ.1), hd_keI (by decide +kernel) f2 (h_keI (by decide +kernel) q4 hR.2.2.1) (hd_keI (by decide +kernel) q4 hR.2.2.1 hZ.2.1), rx_Kf (Or.inr rfl) k2 K1, hd_0 (by decide +kernel) f2 (gz_c (by decide) (by decide) hJ k1 hZ.2.2.2)⟩
  refine ⟨x5, x6, x7, M2, hd2.trans ?_, l_st_s0 s1 s2, ⟨⟨RR, RQ⟩, RZ⟩⟩
  rw [E_V_eq]
  show e_tv E_C (E_V 274) e_t274_1505 [0, 8, 192, 213, i, x5, x6, x7] M = _
  unfold e_t274_1505
  simp [zq_a, zq_b, zq_c, zq_d, zq_e, zq_f, zq_g, zq_h, zq_i, zq_j, zq_k, zq_l, zq_m, zq_n, zq_o, zq_p, zq_q, zq_r, zq_s, zq_t, zq_u, zq_v, zq_w, zq_x, zq_y, zq_z, zq_A, zq_B, zq_C, zq_D, zq_E, zq_F, zq_G, zq_H, zq_I, zq_J, zq_K, zq_L, ↓zq_M, ↓zq_N, ↓zq_O, ↓zq_P, ↓zq_Q, ↓zq_R, zq_S, zq_T, zq_U, zq_V, zq_W, zq_X, zq_Y, zq_Z, zq_0, zq_1, zq_2, zq_3, zq_4, zq_5, ↓zq_6, ↓zq_7, ↓zq_8, ↓zq_9, ↓zq_aa, zq_ab, zq_ac, zq_ad, zq_ae, zq_af, zq_ag, ↓zq_ah, ↓zq_ai, ↓zq_aj, zq_ak, ↓zq_al, ↓zq_am, e_b1, e_b2, x_o1, x_o2, w1, l1, m1, w2, l2, m2, k1, k2]
/-- image -/
theorem l_c32 {n i x5 x6 x7 : Int} {M : EM} (hi : 0 ≤ i ∧ i + 6 ≤ n ∧ n ≤ 3072) (hJ : r_J M) (hRD : h_RD M) (hn : M 5 1 = n) (hv : e_bit (fun x y => x &&& y) (M 0 i.toNat) 63 = 32) : ∃ y5 y6 y7 M1, E_V 274 23 [0, 8, 192, 213, i, x5, x6, x7] M = E_V 274 1903 [0, 8, 192, 213, i, y5, y6, y7] M1 ∧ l_st M M1 ∧ h_RD M1 := by
  obtain ⟨⟨hR, hQ⟩, hZ⟩ := hRD
  have hd := l_head (x5 := x5) (x6 := x6) (x7 := x7) hi hn
  rw [hv] at hd
  have hd2 : E_V 274 23 [0, 8, 192, 213, i, x5, x6, x7] M = E_V 274 1542 [0, 8, 192, 213, i, x5, x6, x7] M := hd
  obtain ⟨r1, M1, k1, -, q3, q4⟩ := a_entry a_c136 (as := [8]) (M := M) ⟨List.mem_cons_self, trivial⟩ hJ.1
  have t1 := l_cl hJ q3 q4 (by decide +kernel)
  have s1 := l_s0_st t1
  have e1 := s1.2.1
  have J1 := s1.1
  have n1 : M1 5 1 = n := s1.2.2.1.trans hn
  have hr : r_T r_wI 255 [192] M1 := r_imageT J1
  obtain ⟨r2, M2, k2, s2, f2⟩ := l_rfF hr (by decide +kernel)
  obtain ⟨r, N1, r0, N2, kk1, kk2, RR0⟩ := p_image_R hR.1
  have p1 := Prod.mk.inj (Option.some.inj (k1.symm.trans kk1))
  obtain ⟨u1, u2⟩ := p1
  subst u2
  have p2 := Prod.mk.inj (Option.some.inj (k2.symm.trans kk2))
  obtain ⟨u3, u4⟩ := p2
  subst u4
  have hV := h_imageC hR.2.1.2.1.2 hQ.2.1 k1 k2
  have hX := h_imageK hQ.2.2.2.1 k1 k2
  have hT := h_image hR.2.1 k1 k2
  have RR : h_R M2 := ⟨RR0, hT.2.1, hT.2.2, h_keS (by decide +kernel) f2 (h_keS (by decide +kernel) q4 hR.2.2.2.1), h_keF (by decide +kernel) f2 (h_keF (by decide +kernel) q4 hR.2.2.2.2)⟩
  have RQ : h_Q M2 := ⟨h_ke1 (by decide +kernel) f2 (h_ke1 (by decide +kernel) q4 hQ.1), hV.1, hV.2, hX.1, hX.2⟩
  have K1 : rx_K _ := hd_KW (by decide +kernel) q4 hZ.2.2.1
  have hW := hd_image hR.2.1.2.1.2 hZ.1 k1 k2
  have RZ : h_Z M2 := ⟨hW.1, hW.2, rx_Kc (by decide) k2 K1, hd_0 (by decide +kernel) f2 (hd_0 (by decide +kernel) q4 hZ.2.2.2)⟩
  refine ⟨x5, x6, x7, M2, hd2.trans ?_, l_st_s0 s1 s2, ⟨⟨RR, RQ⟩, RZ⟩⟩
  rw [E_V_eq]
  show e_tv E_C (E_V 274) e_t274_1542 [0, 8, 192, 213, i, x5, x6, x7] M = _
  unfold e_t274_1542
  simp [zq_a, zq_b, zq_c, zq_d, zq_e, zq_f, zq_g, zq_h, zq_i, zq_j, zq_k, zq_l, zq_m, zq_n, zq_o, zq_p, zq_q, zq_r, zq_s, zq_t, zq_u, zq_v, zq_w, zq_x, zq_y, zq_z, zq_A, zq_B, zq_C, zq_D, zq_E, zq_F, zq_G, zq_H, zq_I, zq_J, zq_K, zq_L, ↓zq_M, ↓zq_N, ↓zq_O, ↓zq_P, ↓zq_Q, ↓zq_R, zq_S, zq_T, zq_U, zq_V, zq_W, zq_X, zq_Y, zq_Z, zq_0, zq_1, zq_2, zq_3, zq_4, zq_5, ↓zq_6, ↓zq_7, ↓zq_8, ↓zq_9, ↓zq_aa, zq_ab, zq_ac, zq_ad, zq_ae, zq_af, zq_ag, ↓zq_ah, ↓zq_ai, ↓zq_aj, zq_ak, ↓zq_al, ↓zq_am, e_b1, e_b2, x_o1, x_o2, k1, k2]
/-- restore -/
theorem l_c33 {n i x5 x6 x7 : Int} {M : EM} (hi : 0 ≤ i ∧ i + 6 ≤ n ∧ n ≤ 3072) (hJ : r_J M) (hRD : h_RD M) (hn : M 5 1 = n) (hv : e_bit (fun x y => x &&& y) (M 0 i.toNat) 63 = 33) : ∃ y5 y6 y7 M1, E_V 274 23 [0, 8, 192, 213, i, x5, x6, x7] M = E_V 274 1903 [0, 8, 192, 213, i, y5, y6, y7] M1 ∧ l_st M M1 ∧ h_RD M1 := by
  obtain ⟨⟨hR, hQ⟩, hZ⟩ := hRD
  have hd := l_head (x5 := x5) (x6 := x6) (x7 := x7) hi hn
  rw [hv] at hd
  have hd2 : E_V 274 23 [0, 8, 192, 213, i, x5, x6, x7] M = E_V 274 1555 [0, 8, 192, 213, i, x5, x6, x7] M := hd
  obtain ⟨r1, M1, k1, -, q3, q4⟩ := a_entry a_c137 (as := [8]) (M := M) ⟨List.mem_cons_self, trivial⟩ hJ.1
  have t1 := l_cl hJ q3 q4 (by decide +kernel)
  have s1 := l_s0_st t1
  have e1 := s1.2.1
  have J1 := s1.1
  have n1 : M1 5 1 = n := s1.2.2.1.trans hn
  have hr : r_T r_wE 256 [192] M1 := r_restoreT J1
  obtain ⟨r2, M2, k2, s2, f2⟩ := l_rfF hr (by decide +kernel)
  obtain ⟨r, N1, r0, N2, kk1, kk2, RR0⟩ := p_restore_R hR.1
  have p1 := Prod.mk.inj (Option.some.inj (k1.symm.trans kk1))
  obtain ⟨u1, u2⟩ := p1
  subst u2
  have p2 := Prod.mk.inj (Option.some.inj (k2.symm.trans kk2))
  obtain ⟨u3, u4⟩ := p2
  subst u4
  have hV := h_restoreC hR.1.2.2 hR.2.1.2.1.2 hR.2.2.1.2.1.2 hQ.2.1 hQ.2.2.1 k1 k2
  have hX := h_restoreK hR.1.2.2 hQ.2.2.2.1 hQ.2.2.2.2 k1 k2
  have hT := h_restore hR.1.2.2 hR.2.1 hR.2.2.1 k1 k2
  have RR : h_R M2 := ⟨RR0, hT.2.1, hT.2.2, h_keS (by decide +kernel) f2 (h_keS (by decide +kernel) q4 hR.2.2.2.1), h_keF (by decide +kernel) f2 (h_keF (by decide +kernel) q4 hR.2.2.2.2)⟩
  have RQ : h_Q M2 := ⟨h_ke1 (by decide +kernel) f2 (h_ke1 (by decide +kernel) q4 hQ.1), hV.1, hV.2, hX.1, hX.2⟩
  have K1 : rx_K _ := hd_KW (by decide +kernel) q4 hZ.2.2.1
  have hW := hd_restore hR.1.2.2 hR.2.1.2.1.2 hR.2.2.1.2.1.2 hZ.1 hZ.2.1 k1 k2
  have RZ : h_Z M2 := ⟨hW.1, hW.2, rx_Kc (by decide) k2 K1, hd_0 (by decide +kernel) f2 (hd_0 (by decide +kernel) q4 hZ.2.2.2)⟩
  refine ⟨x5, x6, x7, M2, hd2.trans ?_, l_st_s0 s1 s2, ⟨⟨RR, RQ⟩, RZ⟩⟩
  rw [E_V_eq]
  show e_tv E_C (E_V 274) e_t274_1555 [0, 8, 192, 213, i, x5, x6, x7] M = _
  unfold e_t274_1555
  simp [zq_a, zq_b, zq_c, zq_d, zq_e, zq_f, zq_g, zq_h, zq_i, zq_j, zq_k, zq_l, zq_m, zq_n, zq_o, zq_p, zq_q, zq_r, zq_s, zq_t, zq_u, zq_v, zq_w, zq_x, zq_y, zq_z, zq_A, zq_B, zq_C, zq_D, zq_E, zq_F, zq_G, zq_H, zq_I, zq_J, zq_K, zq_L, ↓zq_M, ↓zq_N, ↓zq_O, ↓zq_P, ↓zq_Q, ↓zq_R, zq_S, zq_T, zq_U, zq_V, zq_W, zq_X, zq_Y, zq_Z, zq_0, zq_1, zq_2, zq_3, zq_4, zq_5, ↓zq_6, ↓zq_7, ↓zq_8, ↓zq_9, ↓zq_aa, zq_ab, zq_ac, zq_ad, zq_ae, zq_af, zq_ag, ↓zq_ah, ↓zq_ai, ↓zq_aj, zq_ak, ↓zq_al, ↓zq_am, e_b1, e_b2, x_o1, x_o2, k1, k2]
/-- count -/
theorem l_c34 {n i x5 x6 x7 : Int} {M : EM} (hi : 0 ≤ i ∧ i + 6 ≤ n ∧ n ≤ 3072) (hJ : r_J M) (hRD : h_RD M) (hn : M 5 1 = n) (hv : e_bit (fun x y => x &&& y) (M 0 i.toNat) 63 = 34) : ∃ y5 y6 y7 M1, E_V 274 23 [0, 8, 192, 213, i, x5, x6, x7] M = E_V 274 1903 [0, 8, 192, 213, i, y5, y6, y7] M1 ∧ l_st M M1 ∧ h_RD M1 := by
  obtain ⟨⟨hR, hQ⟩, hZ⟩ := hRD
  have hd := l_head (x5 := x5) (x6 := x6) (x7 := x7) hi hn
  rw [hv] at hd
  have hd2 : E_V 274 23 [0, 8, 192, 213, i, x5, x6, x7] M = E_V 274 1568 [0, 8, 192, 213, i, x5, x6, x7] M := hd
  have w1 : e_w (i + 1) = i + 1 := a_w_id (by omega) (by omega)
  have l1 := l_rd (n := n) (j := i + 1) hn (by omega) (by omega)
  have v1 := l_32 hJ (i + 1).toNat
  obtain ⟨r1, M1, k1, -, q3, q4⟩ := a_entry a_c138 (as := [8, M 0 (i + 1).toNat]) (M := M) ⟨List.mem_cons_self, a_gi v1.1 v1.2, trivial⟩ hJ.1
  have t1 := l_cl hJ q3 q4 (by decide +kernel)
  have s1 := l_s0_st t1
  have e1 := s1.2.1
  have J1 := s1.1
  have n1 : M1 5 1 = n := s1.2.2.1.trans hn
  have m1 : e_op 60 [0, i + 1] M1 = some (M 0 (i + 1).toNat) := (l_rd n1 (by omega) (by omega)).trans (congrArg some (e1 _))
  have hr : r_T [] 257 [192, M 0 (i + 1).toNat] M1 := r_countT J1
  obtain ⟨r2, M2, k2, s2, f2⟩ := l_rfF hr (by decide +kernel)
  have RR : h_R M2 := ⟨p_keep (by decide +kernel) (by decide +kernel) f2 (p_keep (by decide +kernel) (by decide +kernel) q4 hR.1), h_keB (by decide +kernel) f2 (h_keB (by decide +kernel) q4 hR.2.1), h_keI (by decide +kernel) f2 (h_keI (by decide +kernel) q4 hR.2.2.1), h_keS (by decide +kernel) f2 (h_keS (by decide +kernel) q4 hR.2.2.2.1), h_keF (by decide +kernel) f2 (h_keF (by decide +kernel) q4 hR.2.2.2.2)⟩
  have RQ : h_Q M2 := ⟨h_ke1 (by decide +kernel) f2 (h_ke1 (by decide +kernel) q4 hQ.1), h_keC (by decide +kernel) f2 (h_keB (by decide +kernel) q4 hR.2.1) (h_keC (by decide +kernel) q4 hR.2.1 hQ.2.1), h_keCI (by decide +kernel) f2 (h_keI (by decide +kernel) q4 hR.2.2.1) (h_keCI (by decide +kernel) q4 hR.2.2.1 hQ.2.2.1), h_keK (by decide +kernel) f2 (h_keK (by decide +kernel) q4 hQ.2.2.2.1), h_keKI (by decide +kernel) f2 (h_keKI (by decide +kernel) q4 hQ.2.2.2.2)⟩
  have K1 : rx_K M1 := hd_KW (by decide +kernel) q4 hZ.2.2.1
  have RZ : h_Z M2 := ⟨hd_ke (by decide +kernel) f2 (h_keB (by decide +kernel) q4 hR.2.1) (hd_ke (by decide +kernel) q4 hR.2.1 hZ.1), hd_keI (by decide +kernel) f2 (h_keI (by decide +kernel) q4 hR.2.2.1) (hd_keI (by decide +kernel) q4 hR.2.2.1 hZ.2.1), rx_Kc (by decide) k2 K1, hd_0 (by decide +kernel) f2 (hd_0 (by decide +kernel) q4 hZ.2.2.2)⟩
  refine ⟨x5, x6, x7, M2, hd2.trans ?_, l_st_s0 s1 s2, ⟨⟨RR, RQ⟩, RZ⟩⟩
  rw [E_V_eq]
  show e_tv E_C (E_V 274) e_t274_1568 [0, 8, 192, 213, i, x5, x6, x7] M = _
  unfold e_t274_1568
  simp [zq_a, zq_b, zq_c, zq_d, zq_e, zq_f, zq_g, zq_h, zq_i, zq_j, zq_k, zq_l, zq_m, zq_n, zq_o, zq_p, zq_q, zq_r, zq_s, zq_t, zq_u, zq_v, zq_w, zq_x, zq_y, zq_z, zq_A, zq_B, zq_C, zq_D, zq_E, zq_F, zq_G, zq_H, zq_I, zq_J, zq_K, zq_L, ↓zq_M, ↓zq_N, ↓zq_O, ↓zq_P, ↓zq_Q, ↓zq_R, zq_S, zq_T, zq_U, zq_V, zq_W, zq_X, zq_Y, zq_Z, zq_0, zq_1, zq_2, zq_3, zq_4, zq_5, ↓zq_6, ↓zq_7, ↓zq_8, ↓zq_9, ↓zq_aa, zq_ab, zq_ac, zq_ad, zq_ae, zq_af, zq_ag, ↓zq_ah, ↓zq_ai, ↓zq_aj, zq_ak, ↓zq_al, ↓zq_am, e_b1, e_b2, x_o1, x_o2, w1, l1, m1, k1, k2]
/-- keep -/
theorem l_c35 {n i x5 x6 x7 : Int} {M : EM} (hi : 0 ≤ i ∧ i + 6 ≤ n ∧ n ≤ 3072) (hJ : r_J M) (hRD : h_RD M) (hn : M 5 1 = n) (hv : e_bit (fun x y => x &&& y) (M 0 i.toNat) 63 = 35) : ∃ y5 y6 y7 M1, E_V 274 23 [0, 8, 192, 213, i, x5, x6, x7] M = E_V 274 1903 [0, 8, 192, 213, i, y5, y6, y7] M1 ∧ l_st M M1 ∧ h_RD M1 := by
  obtain ⟨⟨hR, hQ⟩, hZ⟩ := hRD
  have hd := l_head (x5 := x5) (x6 := x6) (x7 := x7) hi hn
  rw [hv] at hd
  have hd2 : E_V 274 23 [0, 8, 192, 213, i, x5, x6, x7] M = E_V 274 1593 [0, 8, 192, 213, i, x5, x6, x7] M := hd
  have w1 : e_w (i + 1) = i + 1 := a_w_id (by omega) (by omega)
  have l1 := l_rd (n := n) (j := i + 1) hn (by omega) (by omega)
  have v1 := l_32 hJ (i + 1).toNat
  have w2 : e_w (i + 2) = i + 2 := a_w_id (by omega) (by omega)
  have l2 := l_rd (n := n) (j := i + 2) hn (by omega) (by omega)
  have v2 := l_32 hJ (i + 2).toNat
  have w3 : e_w (i + 3) = i + 3 := a_w_id (by omega) (by omega)
  have l3 := l_rd (n := n) (j := i + 3) hn (by omega) (by omega)
  have v3 := l_32 hJ (i + 3).toNat
  obtain ⟨r1, M1, k1, -, q3, q4⟩ := a_entry a_c139 (as := [8, M 0 (i + 1).toNat, M 0 (i + 2).toNat, M 0 (i + 3).toNat]) (M := M) ⟨List.mem_cons_self, a_gi v1.1 v1.2, a_gi v2.1 v2.2, a_gi v3.1 v3.2, trivial⟩ hJ.1
  have t1 := l_cl hJ q3 q4 (by decide +kernel)
  have s1 := l_s0_st t1
  have e1 := s1.2.1
  have J1 := s1.1
  have n1 : M1 5 1 = n := s1.2.2.1.trans hn
  have m1 : e_op 60 [0, i + 1] M1 = some (M 0 (i + 1).toNat) := (l_rd n1 (by omega) (by omega)).trans (congrArg some (e1 _))
  have m2 : e_op 60 [0, i + 2] M1 = some (M 0 (i + 2).toNat) := (l_rd n1 (by omega) (by omega)).trans (congrArg some (e1 _))
  have m3 : e_op 60 [0, i + 3] M1 = some (M 0 (i + 3).toNat) := (l_rd n1 (by omega) (by omega)).trans (congrArg some (e1 _))
  have hr : r_T r_wH 258 [192, M 0 (i + 1).toNat, M 0 (i + 2).toNat, M 0 (i + 3).toNat] M1 := r_keep J1
  obtain ⟨r2, M2, k2, s2, f2⟩ := l_rfF hr (by decide +kernel)
  have hT := h_kept hJ J1 hR.2.1 hR.2.2.2.1 v3 (fun i => (h_cG q4 (by decide +kernel)) 193 i (by decide)) k1 k2
  have RR : h_R M2 := ⟨p_keep (by decide +kernel) (by decide +kernel) f2 (p_keep (by decide +kernel) (by decide +kernel) q4 hR.1), h_keB (by decide +kernel) f2 (h_keB (by decide +kernel) q4 hR.2.1), h_keI (by decide +kernel) f2 (h_keI (by decide +kernel) q4 hR.2.2.1), hT.2, h_keF (by decide +kernel) f2 (h_keF (by decide +kernel) q4 hR.2.2.2.2)⟩
  have RQ : h_Q M2 := ⟨h_ke1 (by decide +kernel) f2 (h_ke1 (by decide +kernel) q4 hQ.1), h_keC (by decide +kernel) f2 (h_keB (by decide +kernel) q4 hR.2.1) (h_keC (by decide +kernel) q4 hR.2.1 hQ.2.1), h_keCI (by decide +kernel) f2 (h_keI (by decide +kernel) q4 hR.2.2.1) (h_keCI (by decide +kernel) q4 hR.2.2.1 hQ.2.2.1), h_keK (by decide +kernel) f2 (h_keK (by decide +kernel) q4 hQ.2.2.2.1), h_keKI (by decide +kernel) f2 (h_keKI (by decide +kernel) q4 hQ.2.2.2.2)⟩
  have K1 : rx_K M1 := hd_KW (by decide +kernel) q4 hZ.2.2.1
  have RZ : h_Z M2 := ⟨hd_ke (by decide +kernel) f2 (h_keB (by decide +kernel) q4 hR.2.1) (hd_ke (by decide +kernel) q4 hR.2.1 hZ.1), hd_keI (by decide +kernel) f2 (h_keI (by decide +kernel) q4 hR.2.2.1) (hd_keI (by decide +kernel) q4 hR.2.2.1 hZ.2.1), rx_Kc (by decide) k2 K1, hd_0 (by decide +kernel) f2 (gz_c (by decide) (by decide) hJ k1 hZ.2.2.2)⟩
  refine ⟨x5, x6, x7, M2, hd2.trans ?_, l_st_s0 s1 s2, ⟨⟨RR, RQ⟩, RZ⟩⟩
  rw [E_V_eq]
  show e_tv E_C (E_V 274) e_t274_1593 [0, 8, 192, 213, i, x5, x6, x7] M = _
  unfold e_t274_1593
  simp [zq_a, zq_b, zq_c, zq_d, zq_e, zq_f, zq_g, zq_h, zq_i, zq_j, zq_k, zq_l, zq_m, zq_n, zq_o, zq_p, zq_q, zq_r, zq_s, zq_t, zq_u, zq_v, zq_w, zq_x, zq_y, zq_z, zq_A, zq_B, zq_C, zq_D, zq_E, zq_F, zq_G, zq_H, zq_I, zq_J, zq_K, zq_L, ↓zq_M, ↓zq_N, ↓zq_O, ↓zq_P, ↓zq_Q, ↓zq_R, zq_S, zq_T, zq_U, zq_V, zq_W, zq_X, zq_Y, zq_Z, zq_0, zq_1, zq_2, zq_3, zq_4, zq_5, ↓zq_6, ↓zq_7, ↓zq_8, ↓zq_9, ↓zq_aa, zq_ab, zq_ac, zq_ad, zq_ae, zq_af, zq_ag, ↓zq_ah, ↓zq_ai, ↓zq_aj, zq_ak, ↓zq_al, ↓zq_am, e_b1, e_b2, x_o1, x_o2, w1, l1, m1, w2, l2, m2, w3, l3, m3, k1, k2]
/-- row -/
theorem l_c36 {n i x5 x6 x7 : Int} {M : EM} (hi : 0 ≤ i ∧ i + 6 ≤ n ∧ n ≤ 3072) (hJ : r_J M) (hRD : h_RD M) (hn : M 5 1 = n) (hv : e_bit (fun x y => x &&& y) (M 0 i.toNat) 63 = 36) : ∃ y5 y6 y7 M1, E_V 274 23 [0, 8, 192, 213, i, x5, x6, x7] M = E_V 274 1903 [0, 8, 192, 213, i, y5, y6, y7] M1 ∧ l_st M M1 ∧ h_RD M1 := by
  obtain ⟨⟨hR, hQ⟩, hZ⟩ := hRD
  have hd := l_head (x5 := x5) (x6 := x6) (x7 := x7) hi hn
  rw [hv] at hd
  have hd2 : E_V 274 23 [0, 8, 192, 213, i, x5, x6, x7] M = E_V 274 1642 [0, 8, 192, 213, i, x5, x6, x7] M := hd
  have w1 : e_w (i + 1) = i + 1 := a_w_id (by omega) (by omega)
  have l1 := l_rd (n := n) (j := i + 1) hn (by omega) (by omega)
  have v1 := l_32 hJ (i + 1).toNat
  have w2 : e_w (i + 2) = i + 2 := a_w_id (by omega) (by omega)
  have l2 := l_rd (n := n) (j := i + 2) hn (by omega) (by omega)
  have v2 := l_32 hJ (i + 2).toNat
  have w3 : e_w (i + 3) = i + 3 := a_w_id (by omega) (by omega)
  have l3 := l_rd (n := n) (j := i + 3) hn (by omega) (by omega)
  have v3 := l_32 hJ (i + 3).toNat
  obtain ⟨M1, k1, q3, q4⟩ := c_row hJ.1 v1 v2 v3
  have t1 := l_cl hJ q3 q4 (by decide +kernel)
  have s1 := l_s0_st t1
  have e1 := s1.2.1
  have J1 := s1.1
  have n1 : M1 5 1 = n := s1.2.2.1.trans hn
  have m1 : e_op 60 [0, i + 1] M1 = some (M 0 (i + 1).toNat) := (l_rd n1 (by omega) (by omega)).trans (congrArg some (e1 _))
  have m2 : e_op 60 [0, i + 2] M1 = some (M 0 (i + 2).toNat) := (l_rd n1 (by omega) (by omega)).trans (congrArg some (e1 _))
  have m3 : e_op 60 [0, i + 3] M1 = some (M 0 (i + 3).toNat) := (l_rd n1 (by omega) (by omega)).trans (congrArg some (e1 _))
  have hr : r_T r_w259 259 [192, M 0 (i + 1).toNat, M 0 (i + 2).toNat, M 0 (i + 3).toNat] M1 := r_rowT J1 v3.2
  obtain ⟨r2, M2, k2, s2, f2⟩ := l_rfF hr (by decide +kernel)
  have hT := h_row hR.2.2.2.1 k1 k2
  have RR : h_R M2 := ⟨p_keep (by decide +kernel) (by decide +kernel) f2 (p_keep (by decide +kernel) (by decide +kernel) q4 hR.1), h_keB (by decide +kernel) f2 (h_keB (by decide +kernel) q4 hR.2.1), h_keI (by decide +kernel) f2 (h_keI (by decide +kernel) q4 hR.2.2.1), hT.2, h_keF (by decide +kernel) f2 (h_keF (by decide +kernel) q4 hR.2.2.2.2)⟩
  have RQ : h_Q M2 := ⟨h_ke1 (by decide +kernel) f2 (h_ke1 (by decide +kernel) q4 hQ.1), h_keC (by decide +kernel) f2 (h_keB (by decide +kernel) q4 hR.2.1) (h_keC (by decide +kernel) q4 hR.2.1 hQ.2.1), h_keCI (by decide +kernel) f2 (h_keI (by decide +kernel) q4 hR.2.2.1) (h_keCI (by decide +kernel) q4 hR.2.2.1 hQ.2.2.1), h_keK (by decide +kernel) f2 (h_keK (by decide +kernel) q4 hQ.2.2.2.1), h_keKI (by decide +kernel) f2 (h_keKI (by decide +kernel) q4 hQ.2.2.2.2)⟩
  have K1 : rx_K M1 := hd_KW (by decide +kernel) q4 hZ.2.2.1
  have RZ : h_Z M2 := ⟨hd_ke (by decide +kernel) f2 (h_keB (by decide +kernel) q4 hR.2.1) (hd_ke (by decide +kernel) q4 hR.2.1 hZ.1), hd_keI (by decide +kernel) f2 (h_keI (by decide +kernel) q4 hR.2.2.1) (hd_keI (by decide +kernel) q4 hR.2.2.1 hZ.2.1), rx_Kc (by decide) k2 K1, hd_0 (by decide +kernel) f2 (hd_0 (by decide +kernel) q4 hZ.2.2.2)⟩
  refine ⟨x5, x6, x7, M2, hd2.trans ?_, l_st_s0 s1 s2, ⟨⟨RR, RQ⟩, RZ⟩⟩
  rw [E_V_eq]
  show e_tv E_C (E_V 274) e_t274_1642 [0, 8, 192, 213, i, x5, x6, x7] M = _
  unfold e_t274_1642
  simp [zq_a, zq_b, zq_c, zq_d, zq_e, zq_f, zq_g, zq_h, zq_i, zq_j, zq_k, zq_l, zq_m, zq_n, zq_o, zq_p, zq_q, zq_r, zq_s, zq_t, zq_u, zq_v, zq_w, zq_x, zq_y, zq_z, zq_A, zq_B, zq_C, zq_D, zq_E, zq_F, zq_G, zq_H, zq_I, zq_J, zq_K, zq_L, ↓zq_M, ↓zq_N, ↓zq_O, ↓zq_P, ↓zq_Q, ↓zq_R, zq_S, zq_T, zq_U, zq_V, zq_W, zq_X, zq_Y, zq_Z, zq_0, zq_1, zq_2, zq_3, zq_4, zq_5, ↓zq_6, ↓zq_7, ↓zq_8, ↓zq_9, ↓zq_aa, zq_ab, zq_ac, zq_ad, zq_ae, zq_af, zq_ag, ↓zq_ah, ↓zq_ai, ↓zq_aj, zq_ak, ↓zq_al, ↓zq_am, e_b1, e_b2, x_o1, x_o2, w1, l1, m1, w2, l2, m2, w3, l3, m3, k1, k2]
/-- put -/
theorem l_c37 {n i x5 x6 x7 : Int} {M : EM} (hi : 0 ≤ i ∧ i + 6 ≤ n ∧ n ≤ 3072) (hJ : r_J M) (hRD : h_RD M) (hn : M 5 1 = n) (hv : e_bit (fun x y => x &&& y) (M 0 i.toNat) 63 = 37) : ∃ y5 y6 y7 M1, E_V 274 23 [0, 8, 192, 213, i, x5, x6, x7] M = E_V 274 1903 [0, 8, 192, 213, i, y5, y6, y7] M1 ∧ l_st M M1 ∧ h_RD M1 := by
  obtain ⟨⟨hR, hQ⟩, hZ⟩ := hRD
  have hd := l_head (x5 := x5) (x6 := x6) (x7 := x7) hi hn
  rw [hv] at hd
  have hd2 : E_V 274 23 [0, 8, 192, 213, i, x5, x6, x7] M = E_V 274 1691 [0, 8, 192, 213, i, x5, x6, x7] M := hd
  have w1 : e_w (i + 1) = i + 1 := a_w_id (by omega) (by omega)
  have l1 := l_rd (n := n) (j := i + 1) hn (by omega) (by omega)
  have v1 := l_32 hJ (i + 1).toNat
  have w2 : e_w (i + 2) = i + 2 := a_w_id (by omega) (by omega)
  have l2 := l_rd (n := n) (j := i + 2) hn (by omega) (by omega)
  have v2 := l_32 hJ (i + 2).toNat
  have w3 : e_w (i + 3) = i + 3 := a_w_id (by omega) (by omega)
  have l3 := l_rd (n := n) (j := i + 3) hn (by omega) (by omega)
  have v3 := l_32 hJ (i + 3).toNat
  obtain ⟨r1, M1, k1, -, q3, q4⟩ := a_entry a_c141 (as := [8, M 0 (i + 1).toNat, M 0 (i + 2).toNat, M 0 (i + 3).toNat]) (M := M) ⟨List.mem_cons_self, a_gi v1.1 v1.2, a_gi v2.1 v2.2, a_gi v3.1 v3.2, trivial⟩ hJ.1
  have t1 := l_cl hJ q3 q4 (by decide +kernel)
  have s1 := l_s0_st t1
  have e1 := s1.2.1
  have J1 := s1.1
  have n1 : M1 5 1 = n := s1.2.2.1.trans hn
  have m1 : e_op 60 [0, i + 1] M1 = some (M 0 (i + 1).toNat) := (l_rd n1 (by omega) (by omega)).trans (congrArg some (e1 _))
  have m2 : e_op 60 [0, i + 2] M1 = some (M 0 (i + 2).toNat) := (l_rd n1 (by omega) (by omega)).trans (congrArg some (e1 _))
  have m3 : e_op 60 [0, i + 3] M1 = some (M 0 (i + 3).toNat) := (l_rd n1 (by omega) (by omega)).trans (congrArg some (e1 _))
  have hr : r_T [(198, 0, 959)] 260 [192, M 0 (i + 1).toNat, M 0 (i + 2).toNat, M 0 (i + 3).toNat] M1 := r_putT J1 v3
  obtain ⟨r2, M2, k2, s2, f2⟩ := l_rfF hr (by decide +kernel)
  have hT := h_put hJ hR.2.2.2.1 k1 k2
  have RR : h_R M2 := ⟨p_keep (by decide +kernel) (by decide +kernel) f2 (p_keep (by decide +kernel) (by decide +kernel) q4 hR.1), h_keB (by decide +kernel) f2 (h_keB (by decide +kernel) q4 hR.2.1), h_keI (by decide +kernel) f2 (h_keI (by decide +kernel) q4 hR.2.2.1), hT.2, h_keF (by decide +kernel) f2 (h_keF (by decide +kernel) q4 hR.2.2.2.2)⟩
  have RQ : h_Q M2 := ⟨h_ke1 (by decide +kernel) f2 (h_ke1 (by decide +kernel) q4 hQ.1), h_keC (by decide +kernel) f2 (h_keB (by decide +kernel) q4 hR.2.1) (h_keC (by decide +kernel) q4 hR.2.1 hQ.2.1), h_keCI (by decide +kernel) f2 (h_keI (by decide +kernel) q4 hR.2.2.1) (h_keCI (by decide +kernel) q4 hR.2.2.1 hQ.2.2.1), h_keK (by decide +kernel) f2 (h_keK (by decide +kernel) q4 hQ.2.2.2.1), h_keKI (by decide +kernel) f2 (h_keKI (by decide +kernel) q4 hQ.2.2.2.2)⟩
  have K1 : rx_K M1 := hd_KW (by decide +kernel) q4 hZ.2.2.1
  have RZ : h_Z M2 := ⟨hd_ke (by decide +kernel) f2 (h_keB (by decide +kernel) q4 hR.2.1) (hd_ke (by decide +kernel) q4 hR.2.1 hZ.1), hd_keI (by decide +kernel) f2 (h_keI (by decide +kernel) q4 hR.2.2.1) (hd_keI (by decide +kernel) q4 hR.2.2.1 hZ.2.1), rx_Kc (by decide) k2 K1, hd_0 (by decide +kernel) f2 (hd_0 (by decide +kernel) q4 hZ.2.2.2)⟩
  refine ⟨x5, x6, x7, M2, hd2.trans ?_, l_st_s0 s1 s2, ⟨⟨RR, RQ⟩, RZ⟩⟩
  rw [E_V_eq]
  show e_tv E_C (E_V 274) e_t274_1691 [0, 8, 192, 213, i, x5, x6, x7] M = _
  unfold e_t274_1691
  simp [zq_a, zq_b, zq_c, zq_d, zq_e, zq_f, zq_g, zq_h, zq_i, zq_j, zq_k, zq_l, zq_m, zq_n, zq_o, zq_p, zq_q, zq_r, zq_s, zq_t, zq_u, zq_v, zq_w, zq_x, zq_y, zq_z, zq_A, zq_B, zq_C, zq_D, zq_E, zq_F, zq_G, zq_H, zq_I, zq_J, zq_K, zq_L, ↓zq_M, ↓zq_N, ↓zq_O, ↓zq_P, ↓zq_Q, ↓zq_R, zq_S, zq_T, zq_U, zq_V, zq_W, zq_X, zq_Y, zq_Z, zq_0, zq_1, zq_2, zq_3, zq_4, zq_5, ↓zq_6, ↓zq_7, ↓zq_8, ↓zq_9, ↓zq_aa, zq_ab, zq_ac, zq_ad, zq_ae, zq_af, zq_ag, ↓zq_ah, ↓zq_ai, ↓zq_aj, zq_ak, ↓zq_al, ↓zq_am, e_b1, e_b2, x_o1, x_o2, w1, l1, m1, w2, l2, m2, w3, l3, m3, k1, k2]
/-- element -/
theorem l_c38 {n i x5 x6 x7 : Int} {M : EM} (hi : 0 ≤ i ∧ i + 6 ≤ n ∧ n ≤ 3072) (hJ : r_J M) (hRD : h_RD M) (hn : M 5 1 = n) (hv : e_bit (fun x y => x &&& y) (M 0 i.toNat) 63 = 38) : ∃ y5 y6 y7 M1, E_V 274 23 [0, 8, 192, 213, i, x5, x6, x7] M = E_V 274 1903 [0, 8, 192, 213, i, y5, y6, y7] M1 ∧ l_st M M1 ∧ h_RD M1 := by
  obtain ⟨⟨hR, hQ⟩, hZ⟩ := hRD
  have hd := l_head (x5 := x5) (x6 := x6) (x7 := x7) hi hn
  rw [hv] at hd
  have hd2 : E_V 274 23 [0, 8, 192, 213, i, x5, x6, x7] M = E_V 274 1740 [0, 8, 192, 213, i, x5, x6, x7] M := hd
  have w1 : e_w (i + 1) = i + 1 := a_w_id (by omega) (by omega)
  have l1 := l_rd (n := n) (j := i + 1) hn (by omega) (by omega)
  have v1 := l_32 hJ (i + 1).toNat
  have w2 : e_w (i + 2) = i + 2 := a_w_id (by omega) (by omega)
  have l2 := l_rd (n := n) (j := i + 2) hn (by omega) (by omega)
  have v2 := l_32 hJ (i + 2).toNat
  obtain ⟨r1, M1, k1, s1, q4⟩ := l_elementF hJ v1 v2
  have e1 := s1.2.1
  have J1 := s1.1
  have n1 : M1 5 1 = n := s1.2.2.1.trans hn
  have m1 : e_op 60 [0, i + 1] M1 = some (M 0 (i + 1).toNat) := (l_rd n1 (by omega) (by omega)).trans (congrArg some (e1 _))
  have m2 : e_op 60 [0, i + 2] M1 = some (M 0 (i + 2).toNat) := (l_rd n1 (by omega) (by omega)).trans (congrArg some (e1 _))
  have hr : r_T [] 261 [192, M 0 (i + 1).toNat, M 0 (i + 2).toNat] M1 := r_elementT J1
  obtain ⟨r2, M2, k2, s2, f2⟩ := l_rfF hr (by decide +kernel)
  have RR : h_R M2 := ⟨p_keep (by decide +kernel) (by decide +kernel) f2 (p_keep (by decide +kernel) (by decide +kernel) q4 hR.1), h_keB (by decide +kernel) f2 (h_keB (by decide +kernel) q4 hR.2.1), h_keI (by decide +kernel) f2 (h_keI (by decide +kernel) q4 hR.2.2.1), h_keS (by decide +kernel) f2 (h_keS (by decide +kernel) q4 hR.2.2.2.1), h_keF (by decide +kernel) f2 (h_keF (by decide +kernel) q4 hR.2.2.2.2)⟩
  have RQ : h_Q M2 := ⟨h_ke1 (by decide +kernel) f2 (h_ke1 (by decide +kernel) q4 hQ.1), h_keC (by decide +kernel) f2 (h_keB (by decide +kernel) q4 hR.2.1) (h_keC (by decide +kernel) q4 hR.2.1 hQ.2.1), h_keCI (by decide +kernel) f2 (h_keI (by decide +kernel) q4 hR.2.2.1) (h_keCI (by decide +kernel) q4 hR.2.2.1 hQ.2.2.1), h_keK (by decide +kernel) f2 (h_keK (by decide +kernel) q4 hQ.2.2.2.1), h_keKI (by decide +kernel) f2 (h_keKI (by decide +kernel) q4 hQ.2.2.2.2)⟩
  have K1 : rx_K M1 := hd_KW (by decide +kernel) q4 hZ.2.2.1
  have RZ : h_Z M2 := ⟨hd_ke (by decide +kernel) f2 (h_keB (by decide +kernel) q4 hR.2.1) (hd_ke (by decide +kernel) q4 hR.2.1 hZ.1), hd_keI (by decide +kernel) f2 (h_keI (by decide +kernel) q4 hR.2.2.1) (hd_keI (by decide +kernel) q4 hR.2.2.1 hZ.2.1), rx_Kc (by decide) k2 K1, hd_0 (by decide +kernel) f2 (gz_c (by decide) (by decide) hJ k1 hZ.2.2.2)⟩
  refine ⟨r1, r2, x7, M2, hd2.trans ?_, l_st_s0 s1 s2, ⟨⟨RR, RQ⟩, RZ⟩⟩
  rw [E_V_eq]
  show e_tv E_C (E_V 274) e_t274_1740 [0, 8, 192, 213, i, x5, x6, x7] M = _
  unfold e_t274_1740
  simp [zq_a, zq_b, zq_c, zq_d, zq_e, zq_f, zq_g, zq_h, zq_i, zq_j, zq_k, zq_l, zq_m, zq_n, zq_o, zq_p, zq_q, zq_r, zq_s, zq_t, zq_u, zq_v, zq_w, zq_x, zq_y, zq_z, zq_A, zq_B, zq_C, zq_D, zq_E, zq_F, zq_G, zq_H, zq_I, zq_J, zq_K, zq_L, ↓zq_M, ↓zq_N, ↓zq_O, ↓zq_P, ↓zq_Q, ↓zq_R, zq_S, zq_T, zq_U, zq_V, zq_W, zq_X, zq_Y, zq_Z, zq_0, zq_1, zq_2, zq_3, zq_4, zq_5, ↓zq_6, ↓zq_7, ↓zq_8, ↓zq_9, ↓zq_aa, zq_ab, zq_ac, zq_ad, zq_ae, zq_af, zq_ag, ↓zq_ah, ↓zq_ai, ↓zq_aj, zq_ak, ↓zq_al, ↓zq_am, e_b1, e_b2, x_o1, x_o2, w1, l1, m1, w2, l2, m2, k1, k2]
/-- copy -/
theorem l_c39 {n i x5 x6 x7 : Int} {M : EM} (hi : 0 ≤ i ∧ i + 6 ≤ n ∧ n ≤ 3072) (hJ : r_J M) (hRD : h_RD M) (hn : M 5 1 = n) (hv : e_bit (fun x y => x &&& y) (M 0 i.toNat) 63 = 39) : ∃ y5 y6 y7 M1, E_V 274 23 [0, 8, 192, 213, i, x5, x6, x7] M = E_V 274 1903 [0, 8, 192, 213, i, y5, y6, y7] M1 ∧ l_st M M1 ∧ h_RD M1 := by
  obtain ⟨⟨hR, hQ⟩, hZ⟩ := hRD
  have hd := l_head (x5 := x5) (x6 := x6) (x7 := x7) hi hn
  rw [hv] at hd
  have hd2 : E_V 274 23 [0, 8, 192, 213, i, x5, x6, x7] M = E_V 274 1780 [0, 8, 192, 213, i, x5, x6, x7] M := hd
  have w1 : e_w (i + 1) = i + 1 := a_w_id (by omega) (by omega)
  have l1 := l_rd (n := n) (j := i + 1) hn (by omega) (by omega)
  have v1 := l_32 hJ (i + 1).toNat
  have w2 : e_w (i + 2) = i + 2 := a_w_id (by omega) (by omega)
  have l2 := l_rd (n := n) (j := i + 2) hn (by omega) (by omega)
  have v2 := l_32 hJ (i + 2).toNat
  have w3 : e_w (i + 3) = i + 3 := a_w_id (by omega) (by omega)
  have l3 := l_rd (n := n) (j := i + 3) hn (by omega) (by omega)
  have v3 := l_32 hJ (i + 3).toNat
  have w4 : e_w (i + 4) = i + 4 := a_w_id (by omega) (by omega)
  have l4 := l_rd (n := n) (j := i + 4) hn (by omega) (by omega)
  have v4 := l_32 hJ (i + 4).toNat
  have w5 : e_w (i + 5) = i + 5 := a_w_id (by omega) (by omega)
  have l5 := l_rd (n := n) (j := i + 5) hn (by omega) (by omega)
  have v5 := l_32 hJ (i + 5).toNat
  obtain ⟨r1, M1, k1, -, q3, q4⟩ := c_copy hJ.1 v1 v2 v3 v4 v5
  have t1 := l_cl hJ q3 q4 (by decide +kernel)
  have s1 := l_s0_st t1
  have e1 := s1.2.1
  have J1 := s1.1
  have n1 : M1 5 1 = n := s1.2.2.1.trans hn
  have m1 : e_op 60 [0, i + 1] M1 = some (M 0 (i + 1).toNat) := (l_rd n1 (by omega) (by omega)).trans (congrArg some (e1 _))
  have m2 : e_op 60 [0, i + 2] M1 = some (M 0 (i + 2).toNat) := (l_rd n1 (by omega) (by omega)).trans (congrArg some (e1 _))
  have m3 : e_op 60 [0, i + 3] M1 = some (M 0 (i + 3).toNat) := (l_rd n1 (by omega) (by omega)).trans (congrArg some (e1 _))
  have m4 : e_op 60 [0, i + 4] M1 = some (M 0 (i + 4).toNat) := (l_rd n1 (by omega) (by omega)).trans (congrArg some (e1 _))
  have m5 : e_op 60 [0, i + 5] M1 = some (M 0 (i + 5).toNat) := (l_rd n1 (by omega) (by omega)).trans (congrArg some (e1 _))
  have hr : r_T [(198, 0, 959)] 262 [192, M 0 (i + 1).toNat, M 0 (i + 2).toNat, M 0 (i + 3).toNat, M 0 (i + 4).toNat, M 0 (i + 5).toNat] M1 := r_copyT J1 v5 v2 v4
  obtain ⟨r2, M2, k2, s2, f2⟩ := l_rfF hr (by decide +kernel)
  have hT := h_copy hJ hR.2.2.2.1 v2 v4 v5 k1 k2
  have RR : h_R M2 := ⟨p_keep (by decide +kernel) (by decide +kernel) f2 (p_keep (by decide +kernel) (by decide +kernel) q4 hR.1), h_keB (by decide +kernel) f2 (h_keB (by decide +kernel) q4 hR.2.1), h_keI (by decide +kernel) f2 (h_keI (by decide +kernel) q4 hR.2.2.1), hT.2, h_keF (by decide +kernel) f2 (h_keF (by decide +kernel) q4 hR.2.2.2.2)⟩
  have RQ : h_Q M2 := ⟨h_ke1 (by decide +kernel) f2 (h_ke1 (by decide +kernel) q4 hQ.1), h_keC (by decide +kernel) f2 (h_keB (by decide +kernel) q4 hR.2.1) (h_keC (by decide +kernel) q4 hR.2.1 hQ.2.1), h_keCI (by decide +kernel) f2 (h_keI (by decide +kernel) q4 hR.2.2.1) (h_keCI (by decide +kernel) q4 hR.2.2.1 hQ.2.2.1), h_keK (by decide +kernel) f2 (h_keK (by decide +kernel) q4 hQ.2.2.2.1), h_keKI (by decide +kernel) f2 (h_keKI (by decide +kernel) q4 hQ.2.2.2.2)⟩
  have K1 : rx_K M1 := hd_KW (by decide +kernel) q4 hZ.2.2.1
  have RZ : h_Z M2 := ⟨hd_ke (by decide +kernel) f2 (h_keB (by decide +kernel) q4 hR.2.1) (hd_ke (by decide +kernel) q4 hR.2.1 hZ.1), hd_keI (by decide +kernel) f2 (h_keI (by decide +kernel) q4 hR.2.2.1) (hd_keI (by decide +kernel) q4 hR.2.2.1 hZ.2.1), rx_Kc (by decide) k2 K1, hd_0 (by decide +kernel) f2 (hd_0 (by decide +kernel) q4 hZ.2.2.2)⟩
  refine ⟨x5, x6, x7, M2, hd2.trans ?_, l_st_s0 s1 s2, ⟨⟨RR, RQ⟩, RZ⟩⟩
  rw [E_V_eq]
  show e_tv E_C (E_V 274) e_t274_1780 [0, 8, 192, 213, i, x5, x6, x7] M = _
  unfold e_t274_1780
  simp [zq_a, zq_b, zq_c, zq_d, zq_e, zq_f, zq_g, zq_h, zq_i, zq_j, zq_k, zq_l, zq_m, zq_n, zq_o, zq_p, zq_q, zq_r, zq_s, zq_t, zq_u, zq_v, zq_w, zq_x, zq_y, zq_z, zq_A, zq_B, zq_C, zq_D, zq_E, zq_F, zq_G, zq_H, zq_I, zq_J, zq_K, zq_L, ↓zq_M, ↓zq_N, ↓zq_O, ↓zq_P, ↓zq_Q, ↓zq_R, zq_S, zq_T, zq_U, zq_V, zq_W, zq_X, zq_Y, zq_Z, zq_0, zq_1, zq_2, zq_3, zq_4, zq_5, ↓zq_6, ↓zq_7, ↓zq_8, ↓zq_9, ↓zq_aa, zq_ab, zq_ac, zq_ad, zq_ae, zq_af, zq_ag, ↓zq_ah, ↓zq_ai, ↓zq_aj, zq_ak, ↓zq_al, ↓zq_am, e_b1, e_b2, x_o1, x_o2, w1, l1, m1, w2, l2, m2, w3, l3, m3, w4, l4, m4, w5, l5, m5, k1, k2]
/-- weight -/
theorem l_c40 {n i x5 x6 x7 : Int} {M : EM} (hi : 0 ≤ i ∧ i + 6 ≤ n ∧ n ≤ 3072) (hJ : r_J M) (hRD : h_RD M) (hn : M 5 1 = n) (hv : e_bit (fun x y => x &&& y) (M 0 i.toNat) 63 = 40) : ∃ y5 y6 y7 M1, E_V 274 23 [0, 8, 192, 213, i, x5, x6, x7] M = E_V 274 1903 [0, 8, 192, 213, i, y5, y6, y7] M1 ∧ l_st M M1 ∧ h_RD M1 := by
  obtain ⟨⟨hR, hQ⟩, hZ⟩ := hRD
  have hd := l_head (x5 := x5) (x6 := x6) (x7 := x7) hi hn
  rw [hv] at hd
  have hd2 : E_V 274 23 [0, 8, 192, 213, i, x5, x6, x7] M = E_V 274 1853 [0, 8, 192, 213, i, x5, x6, x7] M := hd
  have w1 : e_w (i + 1) = i + 1 := a_w_id (by omega) (by omega)
  have l1 := l_rd (n := n) (j := i + 1) hn (by omega) (by omega)
  have v1 := l_32 hJ (i + 1).toNat
  obtain ⟨r1, M1, k1, -, q3, q4⟩ := a_entry a_c144 (as := [8, M 0 (i + 1).toNat]) (M := M) ⟨List.mem_cons_self, a_gi v1.1 v1.2, trivial⟩ hJ.1
  have t1 := l_cl hJ q3 q4 (by decide +kernel)
  have s1 := l_s0_st t1
  have e1 := s1.2.1
  have J1 := s1.1
  have n1 : M1 5 1 = n := s1.2.2.1.trans hn
  have m1 : e_op 60 [0, i + 1] M1 = some (M 0 (i + 1).toNat) := (l_rd n1 (by omega) (by omega)).trans (congrArg some (e1 _))
  have hr : r_T [] 264 [192, M 0 (i + 1).toNat] M1 := r_weightT J1
  obtain ⟨r2, M2, k2, s2, f2⟩ := l_rfF hr (by decide +kernel)
  have RR : h_R M2 := ⟨p_keep (by decide +kernel) (by decide +kernel) f2 (p_keep (by decide +kernel) (by decide +kernel) q4 hR.1), h_keB (by decide +kernel) f2 (h_keB (by decide +kernel) q4 hR.2.1), h_keI (by decide +kernel) f2 (h_keI (by decide +kernel) q4 hR.2.2.1), h_keS (by decide +kernel) f2 (h_keS (by decide +kernel) q4 hR.2.2.2.1), h_keF (by decide +kernel) f2 (h_keF (by decide +kernel) q4 hR.2.2.2.2)⟩
  have RQ : h_Q M2 := ⟨h_ke1 (by decide +kernel) f2 (h_ke1 (by decide +kernel) q4 hQ.1), h_keC (by decide +kernel) f2 (h_keB (by decide +kernel) q4 hR.2.1) (h_keC (by decide +kernel) q4 hR.2.1 hQ.2.1), h_keCI (by decide +kernel) f2 (h_keI (by decide +kernel) q4 hR.2.2.1) (h_keCI (by decide +kernel) q4 hR.2.2.1 hQ.2.2.1), h_keK (by decide +kernel) f2 (h_keK (by decide +kernel) q4 hQ.2.2.2.1), h_keKI (by decide +kernel) f2 (h_keKI (by decide +kernel) q4 hQ.2.2.2.2)⟩
  have K1 : rx_K M1 := hd_KW (by decide +kernel) q4 hZ.2.2.1
  have RZ : h_Z M2 := ⟨hd_ke (by decide +kernel) f2 (h_keB (by decide +kernel) q4 hR.2.1) (hd_ke (by decide +kernel) q4 hR.2.1 hZ.1), hd_keI (by decide +kernel) f2 (h_keI (by decide +kernel) q4 hR.2.2.1) (hd_keI (by decide +kernel) q4 hR.2.2.1 hZ.2.1), rx_Kc (by decide) k2 K1, hd_0 (by decide +kernel) f2 (hd_0 (by decide +kernel) q4 hZ.2.2.2)⟩
  refine ⟨x5, x6, x7, M2, hd2.trans ?_, l_st_s0 s1 s2, ⟨⟨RR, RQ⟩, RZ⟩⟩
  rw [E_V_eq]
  show e_tv E_C (E_V 274) e_t274_1853 [0, 8, 192, 213, i, x5, x6, x7] M = _
  unfold e_t274_1853
  simp [zq_a, zq_b, zq_c, zq_d, zq_e, zq_f, zq_g, zq_h, zq_i, zq_j, zq_k, zq_l, zq_m, zq_n, zq_o, zq_p, zq_q, zq_r, zq_s, zq_t, zq_u, zq_v, zq_w, zq_x, zq_y, zq_z, zq_A, zq_B, zq_C, zq_D, zq_E, zq_F, zq_G, zq_H, zq_I, zq_J, zq_K, zq_L, ↓zq_M, ↓zq_N, ↓zq_O, ↓zq_P, ↓zq_Q, ↓zq_R, zq_S, zq_T, zq_U, zq_V, zq_W, zq_X, zq_Y, zq_Z, zq_0, zq_1, zq_2, zq_3, zq_4, zq_5, ↓zq_6, ↓zq_7, ↓zq_8, ↓zq_9, ↓zq_aa, zq_ab, zq_ac, zq_ad, zq_ae, zq_af, zq_ag, ↓zq_ah, ↓zq_ai, ↓zq_aj, zq_ak, ↓zq_al, ↓zq_am, e_b1, e_b2, x_o1, x_o2, w1, l1, m1, k1, k2]
/-- toss -/
theorem l_c41 {n i x5 x6 x7 : Int} {M : EM} (hi : 0 ≤ i ∧ i + 6 ≤ n ∧ n ≤ 3072) (hJ : r_J M) (hRD : h_RD M) (hn : M 5 1 = n) (hv : e_bit (fun x y => x &&& y) (M 0 i.toNat) 63 = 41) : ∃ y5 y6 y7 M1, E_V 274 23 [0, 8, 192, 213, i, x5, x6, x7] M = E_V 274 1903 [0, 8, 192, 213, i, y5, y6, y7] M1 ∧ l_st M M1 ∧ h_RD M1 := by
  obtain ⟨⟨hR, hQ⟩, hZ⟩ := hRD
  have hd := l_head (x5 := x5) (x6 := x6) (x7 := x7) hi hn
  rw [hv] at hd
  have hd2 : E_V 274 23 [0, 8, 192, 213, i, x5, x6, x7] M = E_V 274 1878 [0, 8, 192, 213, i, x5, x6, x7] M := hd
  have w1 : e_w (i + 1) = i + 1 := a_w_id (by omega) (by omega)
  have l1 := l_rd (n := n) (j := i + 1) hn (by omega) (by omega)
  have v1 := l_32 hJ (i + 1).toNat
  obtain ⟨r1, M1, k1, -, q3, q4⟩ := a_entry a_c145 (as := [8, M 0 (i + 1).toNat]) (M := M) ⟨List.mem_cons_self, a_gi v1.1 v1.2, trivial⟩ hJ.1
  have t1 := l_cl hJ q3 q4 (by decide +kernel)
  have s1 := l_s0_st t1
  have e1 := s1.2.1
  have J1 := s1.1
  have n1 : M1 5 1 = n := s1.2.2.1.trans hn
  have m1 : e_op 60 [0, i + 1] M1 = some (M 0 (i + 1).toNat) := (l_rd n1 (by omega) (by omega)).trans (congrArg some (e1 _))
  have hr : r_T [] 265 [192, M 0 (i + 1).toNat] M1 := r_tossT J1
  obtain ⟨r2, M2, k2, s2, f2⟩ := l_rfF hr (by decide +kernel)
  have RR : h_R M2 := ⟨p_keep (by decide +kernel) (by decide +kernel) f2 (p_keep (by decide +kernel) (by decide +kernel) q4 hR.1), h_keB (by decide +kernel) f2 (h_keB (by decide +kernel) q4 hR.2.1), h_keI (by decide +kernel) f2 (h_keI (by decide +kernel) q4 hR.2.2.1), h_keS (by decide +kernel) f2 (h_keS (by decide +kernel) q4 hR.2.2.2.1), h_keF (by decide +kernel) f2 (h_keF (by decide +kernel) q4 hR.2.2.2.2)⟩
  have RQ : h_Q M2 := ⟨h_ke1 (by decide +kernel) f2 (h_ke1 (by decide +kernel) q4 hQ.1), h_keC (by decide +kernel) f2 (h_keB (by decide +kernel) q4 hR.2.1) (h_keC (by decide +kernel) q4 hR.2.1 hQ.2.1), h_keCI (by decide +kernel) f2 (h_keI (by decide +kernel) q4 hR.2.2.1) (h_keCI (by decide +kernel) q4 hR.2.2.1 hQ.2.2.1), h_keK (by decide +kernel) f2 (h_keK (by decide +kernel) q4 hQ.2.2.2.1), h_keKI (by decide +kernel) f2 (h_keKI (by decide +kernel) q4 hQ.2.2.2.2)⟩
  have K1 : rx_K M1 := hd_KW (by decide +kernel) q4 hZ.2.2.1
  have RZ : h_Z M2 := ⟨hd_ke (by decide +kernel) f2 (h_keB (by decide +kernel) q4 hR.2.1) (hd_ke (by decide +kernel) q4 hR.2.1 hZ.1), hd_keI (by decide +kernel) f2 (h_keI (by decide +kernel) q4 hR.2.2.1) (hd_keI (by decide +kernel) q4 hR.2.2.1 hZ.2.1), rx_Kc (by decide) k2 K1, hd_0 (by decide +kernel) f2 (hd_0 (by decide +kernel) q4 hZ.2.2.2)⟩
  refine ⟨x5, x6, x7, M2, hd2.trans ?_, l_st_s0 s1 s2, ⟨⟨RR, RQ⟩, RZ⟩⟩
  rw [E_V_eq]
  show e_tv E_C (E_V 274) e_t274_1878 [0, 8, 192, 213, i, x5, x6, x7] M = _
  unfold e_t274_1878
  simp [zq_a, zq_b, zq_c, zq_d, zq_e, zq_f, zq_g, zq_h, zq_i, zq_j, zq_k, zq_l, zq_m, zq_n, zq_o, zq_p, zq_q, zq_r, zq_s, zq_t, zq_u, zq_v, zq_w, zq_x, zq_y, zq_z, zq_A, zq_B, zq_C, zq_D, zq_E, zq_F, zq_G, zq_H, zq_I, zq_J, zq_K, zq_L, ↓zq_M, ↓zq_N, ↓zq_O, ↓zq_P, ↓zq_Q, ↓zq_R, zq_S, zq_T, zq_U, zq_V, zq_W, zq_X, zq_Y, zq_Z, zq_0, zq_1, zq_2, zq_3, zq_4, zq_5, ↓zq_6, ↓zq_7, ↓zq_8, ↓zq_9, ↓zq_aa, zq_ab, zq_ac, zq_ad, zq_ae, zq_af, zq_ag, ↓zq_ah, ↓zq_ai, ↓zq_aj, zq_ak, ↓zq_al, ↓zq_am, e_b1, e_b2, x_o1, x_o2, w1, l1, m1, k1, k2]
