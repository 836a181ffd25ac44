/-! the law's loop, case by case -/
theorem l_head {n i x5 x6 x7 : Int} {M : EM} (hi : 0 ≤ i ∧ i + 6 ≤ n ∧ n ≤ 3072) (hn : M 5 1 = n) : E_V 274 23 [0, 8, 192, 213, i, x5, x6, x7] M = E_V 274 (if e_bit (fun x y => x &&& y) (M 0 i.toNat) 63 < 0 ∨ 0 + 42 ≤ e_bit (fun x y => x &&& y) (M 0 i.toNat) 63 then 1903 else e_nth (.add (.num 224) (.add (.num 249) (.add (.num 286) (.add (.num 335) (.add (.num 384) (.add (.num 437) (.add (.num 477) (.add (.num 514) (.add (.num 551) (.add (.num 588) (.add (.num 637) (.add (.num 686) (.add (.num 723) (.add (.num 772) (.add (.num 821) (.add (.num 882) (.add (.num 931) (.add (.num 968) (.add (.num 993) (.add (.num 1030) (.add (.num 1079) (.add (.num 1116) (.add (.num 1153) (.add (.num 1202) (.add (.num 1239) (.add (.num 1276) (.add (.num 1301) (.add (.num 1326) (.add (.num 1363) (.add (.num 1431) (.add (.num 1456) (.add (.num 1505) (.add (.num 1542) (.add (.num 1555) (.add (.num 1568) (.add (.num 1593) (.add (.num 1642) (.add (.num 1691) (.add (.num 1740) (.add (.num 1780) (.add (.num 1853) (.add (.num 1878) (.num 1903))))))))))))))))))))))))))))))))))))))))))) (e_bit (fun x y => x &&& y) (M 0 i.toNat) 63 - 0).toNat) [0, 8, 192, 213, i, x5, x6, x7] M := by
  have wn : e_w (n - 6) = n - 6 := a_w_id (by omega) (by omega)
  have ll := l_len hn (by omega)
  have lr := l_rd (n := n) (j := i) hn hi.1 (by omega)
  have hle : i ≤ n - 6 := by omega
  have hle' : ¬ (n - 6 < i) := by omega
  rw [E_V_eq]
  show e_tv E_C (E_V 274) e_t274_23 [0, 8, 192, 213, i, x5, x6, x7] M = _
  have h1 : e_ev E_C [0, 8, 192, 213, i, x5, x6, x7] (.mulL 45 (.add (.var 4) (.mulL 11 (.add (.mulL 63 (.var 0)) (.num 6))))) M = some ([1], M) := by
    simp [zq_a, zq_b, zq_c, zq_d, zq_e, zq_f, zq_g, zq_h, zq_i, zq_j, zq_k, zq_l, zq_m, zq_n, zq_o, zq_p, zq_q, zq_r, zq_s, zq_t, zq_u, zq_v, zq_w, zq_x, zq_y, zq_z, zq_A, zq_B, zq_C, zq_D, zq_E, zq_F, zq_G, zq_H, zq_I, zq_J, zq_K, zq_L, ↓zq_M, ↓zq_N, ↓zq_O, ↓zq_P, ↓zq_Q, ↓zq_R, zq_S, zq_T, zq_U, zq_V, zq_W, zq_X, zq_Y, zq_Z, zq_0, zq_1, zq_2, zq_3, zq_4, zq_5, ↓zq_6, ↓zq_7, ↓zq_8, ↓zq_9, ↓zq_aa, zq_ab, zq_ac, zq_ad, zq_ae, zq_af, zq_ag, ↓zq_ah, ↓zq_ai, ↓zq_aj, zq_ak, ↓zq_al, ↓zq_am, e_b1, e_b2, x_o1, x_o2, ll, wn, hle]
  have h2 : e_ev E_C [0, 8, 192, 213, i, x5, x6, x7] (.mulL 15 (.add (.mulL 60 (.add (.var 0) (.var 4))) (.num 63))) M = some ([e_bit (fun x y => x &&& y) (M 0 i.toNat) 63], M) := by
    simp [zq_a, zq_b, zq_c, zq_d, zq_e, zq_f, zq_g, zq_h, zq_i, zq_j, zq_k, zq_l, zq_m, zq_n, zq_o, zq_p, zq_q, zq_r, zq_s, zq_t, zq_u, zq_v, zq_w, zq_x, zq_y, zq_z, zq_A, zq_B, zq_C, zq_D, zq_E, zq_F, zq_G, zq_H, zq_I, zq_J, zq_K, zq_L, ↓zq_M, ↓zq_N, ↓zq_O, ↓zq_P, ↓zq_Q, ↓zq_R, zq_S, zq_T, zq_U, zq_V, zq_W, zq_X, zq_Y, zq_Z, zq_0, zq_1, zq_2, zq_3, zq_4, zq_5, ↓zq_6, ↓zq_7, ↓zq_8, ↓zq_9, ↓zq_aa, zq_ab, zq_ac, zq_ad, zq_ae, zq_af, zq_ag, ↓zq_ah, ↓zq_ai, ↓zq_aj, zq_ak, ↓zq_al, ↓zq_am, e_b1, e_b2, x_o1, x_o2, lr]
  unfold e_t274_23
  unfold e_tv
  rw [h1]
  show e_tv E_C (E_V 274) _ [0, 8, 192, 213, i, x5, x6, x7] M = _
  unfold e_tv
  rw [if_pos (by decide)]
  unfold e_tv
  rw [h2]
  rfl
/-- text -/
theorem l_c0 {n i x5 x6 x7 : Int} {M : EM} (hi : 0 ≤ i ∧ i + 6 ≤ n ∧ n ≤ 3072) (hJ : r_J M) (hRD : h_RD M) (hn : M 5 1 = n) (hv : e_bit (fun x y => x &&& y) (M 0 i.toNat) 63 = 0) : ∃ y5 y6 y7 M1, E_V 274 23 [0, 8, 192, 213, i, x5, x6, x7] M = E_V 274 1903 [0, 8, 192, 213, i, y5, y6, y7] M1 ∧ l_st M M1 ∧ h_RD M1 := by
  obtain ⟨⟨hR, hQ⟩, hZ⟩ := hRD
  have hd := l_head (x5 := x5) (x6 := x6) (x7 := x7) hi hn
  rw [hv] at hd
  have hd2 : E_V 274 23 [0, 8, 192, 213, i, x5, x6, x7] M = E_V 274 224 [0, 8, 192, 213, i, x5, x6, x7] M := hd
  have w1 : e_w (i + 1) = i + 1 := a_w_id (by omega) (by omega)
  have l1 := l_rd (n := n) (j := i + 1) hn (by omega) (by omega)
  have v1 := l_32 hJ (i + 1).toNat
  obtain ⟨r1, M1, k1, -, q3, q4⟩ := a_entry a_c104 (as := [8, M 0 (i + 1).toNat]) (M := M) ⟨List.mem_cons_self, a_gi v1.1 v1.2, trivial⟩ hJ.1
  have t1 := l_cl hJ q3 q4 (by decide +kernel)
  have s1 := l_s0_st t1
  have e1 := s1.2.1
  have J1 := s1.1
  have n1 : M1 5 1 = n := s1.2.2.1.trans hn
  have m1 : e_op 60 [0, i + 1] M1 = some (M 0 (i + 1).toNat) := (l_rd n1 (by omega) (by omega)).trans (congrArg some (e1 _))
  have hr : r_T r_wX 190 [192, M 0 (i + 1).toNat] M1 := r_text J1
  obtain ⟨r2, M2, k2, s2, f2⟩ := l_rfF hr (by decide +kernel)
  have hT := h_text2 hJ hR.2.1 hQ.2.1 hR.2.2.2.1 hR.2.2.2.2 k1 J1 (h_cG q4 (by decide +kernel)) k2
  have RR : h_R M2 := ⟨p_keep (by decide +kernel) (by decide +kernel) f2 (p_keep (by decide +kernel) (by decide +kernel) q4 hR.1), hT.2.1, h_keI (by decide +kernel) f2 (h_keI (by decide +kernel) q4 hR.2.2.1), h_keS (by decide +kernel) f2 (h_keS (by decide +kernel) q4 hR.2.2.2.1), hT.2.2.2⟩
  have RQ : h_Q M2 := ⟨h_ke1 (by decide +kernel) f2 (h_ke1 (by decide +kernel) q4 hQ.1), hT.2.2.1, h_keCI (by decide +kernel) f2 (h_keI (by decide +kernel) q4 hR.2.2.1) (h_keCI (by decide +kernel) q4 hR.2.2.1 hQ.2.2.1), h_keK (by decide +kernel) f2 (h_keK (by decide +kernel) q4 hQ.2.2.2.1), h_keKI (by decide +kernel) f2 (h_keKI (by decide +kernel) q4 hQ.2.2.2.2)⟩
  have K1 : rx_K M1 := hd_KW (by decide +kernel) q4 hZ.2.2.1
  have RZ : h_Z M2 := ⟨hd_text hJ hR.2.1 hZ.1 hR.2.2.2.1 hR.2.2.2.2 k1 J1 (h_cG q4 (by decide +kernel)) k2, hd_keI (by decide +kernel) f2 (h_keI (by decide +kernel) q4 hR.2.2.1) (hd_keI (by decide +kernel) q4 hR.2.2.1 hZ.2.1), rx_Kc (by decide) k2 K1, hd_0 (by decide +kernel) f2 (hd_0 (by decide +kernel) q4 hZ.2.2.2)⟩
  refine ⟨x5, x6, x7, M2, hd2.trans ?_, l_st_s0 s1 s2, ⟨⟨RR, RQ⟩, RZ⟩⟩
  rw [E_V_eq]
  show e_tv E_C (E_V 274) e_t274_224 [0, 8, 192, 213, i, x5, x6, x7] M = _
  unfold e_t274_224
  simp [zq_a, zq_b, zq_c, zq_d, zq_e, zq_f, zq_g, zq_h, zq_i, zq_j, zq_k, zq_l, zq_m, zq_n, zq_o, zq_p, zq_q, zq_r, zq_s, zq_t, zq_u, zq_v, zq_w, zq_x, zq_y, zq_z, zq_A, zq_B, zq_C, zq_D, zq_E, zq_F, zq_G, zq_H, zq_I, zq_J, zq_K, zq_L, ↓zq_M, ↓zq_N, ↓zq_O, ↓zq_P, ↓zq_Q, ↓zq_R, zq_S, zq_T, zq_U, zq_V, zq_W, zq_X, zq_Y, zq_Z, zq_0, zq_1, zq_2, zq_3, zq_4, zq_5, ↓zq_6, ↓zq_7, ↓zq_8, ↓zq_9, ↓zq_aa, zq_ab, zq_ac, zq_ad, zq_ae, zq_af, zq_ag, ↓zq_ah, ↓zq_ai, ↓zq_aj, zq_ak, ↓zq_al, ↓zq_am, e_b1, e_b2, x_o1, x_o2, w1, l1, m1, k1, k2]
/-- about -/
theorem l_c1 {n i x5 x6 x7 : Int} {M : EM} (hi : 0 ≤ i ∧ i + 6 ≤ n ∧ n ≤ 3072) (hJ : r_J M) (hRD : h_RD M) (hn : M 5 1 = n) (hv : e_bit (fun x y => x &&& y) (M 0 i.toNat) 63 = 1) : ∃ y5 y6 y7 M1, E_V 274 23 [0, 8, 192, 213, i, x5, x6, x7] M = E_V 274 1903 [0, 8, 192, 213, i, y5, y6, y7] M1 ∧ l_st M M1 ∧ h_RD M1 := by
  obtain ⟨⟨hR, hQ⟩, hZ⟩ := hRD
  have hd := l_head (x5 := x5) (x6 := x6) (x7 := x7) hi hn
  rw [hv] at hd
  have hd2 : E_V 274 23 [0, 8, 192, 213, i, x5, x6, x7] M = E_V 274 249 [0, 8, 192, 213, i, x5, x6, x7] M := hd
  have w1 : e_w (i + 1) = i + 1 := a_w_id (by omega) (by omega)
  have l1 := l_rd (n := n) (j := i + 1) hn (by omega) (by omega)
  have v1 := l_32 hJ (i + 1).toNat
  have w2 : e_w (i + 2) = i + 2 := a_w_id (by omega) (by omega)
  have l2 := l_rd (n := n) (j := i + 2) hn (by omega) (by omega)
  have v2 := l_32 hJ (i + 2).toNat
  obtain ⟨r1, M1, k1, -, q3, q4⟩ := a_entry a_c105 (as := [8, M 0 (i + 1).toNat, M 0 (i + 2).toNat]) (M := M) ⟨List.mem_cons_self, a_gi v1.1 v1.2, a_gi v2.1 v2.2, trivial⟩ hJ.1
  have t1 := l_cl hJ q3 q4 (by decide +kernel)
  have s1 := l_s0_st t1
  have e1 := s1.2.1
  have J1 := s1.1
  have n1 : M1 5 1 = n := s1.2.2.1.trans hn
  have m1 : e_op 60 [0, i + 1] M1 = some (M 0 (i + 1).toNat) := (l_rd n1 (by omega) (by omega)).trans (congrArg some (e1 _))
  have m2 : e_op 60 [0, i + 2] M1 = some (M 0 (i + 2).toNat) := (l_rd n1 (by omega) (by omega)).trans (congrArg some (e1 _))
  have hr : r_T [] 191 [192, M 0 (i + 1).toNat, M 0 (i + 2).toNat] M1 := r_Tq J1 (r_about J1)
  obtain ⟨r2, M2, k2, s2, f2⟩ := l_rfF hr (by decide +kernel)
  have RR : h_R M2 := ⟨p_keep (by decide +kernel) (by decide +kernel) f2 (p_keep (by decide +kernel) (by decide +kernel) q4 hR.1), h_keB (by decide +kernel) f2 (h_keB (by decide +kernel) q4 hR.2.1), h_keI (by decide +kernel) f2 (h_keI (by decide +kernel) q4 hR.2.2.1), h_keS (by decide +kernel) f2 (h_keS (by decide +kernel) q4 hR.2.2.2.1), h_keF (by decide +kernel) f2 (h_keF (by decide +kernel) q4 hR.2.2.2.2)⟩
  have RQ : h_Q M2 := ⟨h_ke1 (by decide +kernel) f2 (h_ke1 (by decide +kernel) q4 hQ.1), h_keC (by decide +kernel) f2 (h_keB (by decide +kernel) q4 hR.2.1) (h_keC (by decide +kernel) q4 hR.2.1 hQ.2.1), h_keCI (by decide +kernel) f2 (h_keI (by decide +kernel) q4 hR.2.2.1) (h_keCI (by decide +kernel) q4 hR.2.2.1 hQ.2.2.1), h_keK (by decide +kernel) f2 (h_keK (by decide +kernel) q4 hQ.2.2.2.1), h_keKI (by decide +kernel) f2 (h_keKI (by decide +kernel) q4 hQ.2.2.2.2)⟩
  have K1 : rx_K M1 := hd_KW (by decide +kernel) q4 hZ.2.2.1
  have RZ : h_Z M2 := ⟨hd_ke (by decide +kernel) f2 (h_keB (by decide +kernel) q4 hR.2.1) (hd_ke (by decide +kernel) q4 hR.2.1 hZ.1), hd_keI (by decide +kernel) f2 (h_keI (by decide +kernel) q4 hR.2.2.1) (hd_keI (by decide +kernel) q4 hR.2.2.1 hZ.2.1), rx_Kc (by decide) k2 K1, hd_0 (by decide +kernel) f2 (gz_c (by decide) (by decide) hJ k1 hZ.2.2.2)⟩
  refine ⟨x5, x6, x7, M2, hd2.trans ?_, l_st_s0 s1 s2, ⟨⟨RR, RQ⟩, RZ⟩⟩
  rw [E_V_eq]
  show e_tv E_C (E_V 274) e_t274_249 [0, 8, 192, 213, i, x5, x6, x7] M = _
  unfold e_t274_249
  simp [zq_a, zq_b, zq_c, zq_d, zq_e, zq_f, zq_g, zq_h, zq_i, zq_j, zq_k, zq_l, zq_m, zq_n, zq_o, zq_p, zq_q, zq_r, zq_s, zq_t, zq_u, zq_v, zq_w, zq_x, zq_y, zq_z, zq_A, zq_B, zq_C, zq_D, zq_E, zq_F, zq_G, zq_H, zq_I, zq_J, zq_K, zq_L, ↓zq_M, ↓zq_N, ↓zq_O, ↓zq_P, ↓zq_Q, ↓zq_R, zq_S, zq_T, zq_U, zq_V, zq_W, zq_X, zq_Y, zq_Z, zq_0, zq_1, zq_2, zq_3, zq_4, zq_5, ↓zq_6, ↓zq_7, ↓zq_8, ↓zq_9, ↓zq_aa, zq_ab, zq_ac, zq_ad, zq_ae, zq_af, zq_ag, ↓zq_ah, ↓zq_ai, ↓zq_aj, zq_ak, ↓zq_al, ↓zq_am, e_b1, e_b2, x_o1, x_o2, w1, l1, m1, w2, l2, m2, k1, k2]
/-- point -/
theorem l_c2 {n i x5 x6 x7 : Int} {M : EM} (hi : 0 ≤ i ∧ i + 6 ≤ n ∧ n ≤ 3072) (hJ : r_J M) (hRD : h_RD M) (hn : M 5 1 = n) (hv : e_bit (fun x y => x &&& y) (M 0 i.toNat) 63 = 2) : ∃ y5 y6 y7 M1, E_V 274 23 [0, 8, 192, 213, i, x5, x6, x7] M = E_V 274 1903 [0, 8, 192, 213, i, y5, y6, y7] M1 ∧ l_st M M1 ∧ h_RD M1 := by
  obtain ⟨⟨hR, hQ⟩, hZ⟩ := hRD
  have hd := l_head (x5 := x5) (x6 := x6) (x7 := x7) hi hn
  rw [hv] at hd
  have hd2 : E_V 274 23 [0, 8, 192, 213, i, x5, x6, x7] M = E_V 274 286 [0, 8, 192, 213, i, x5, x6, x7] M := hd
  have w1 : e_w (i + 1) = i + 1 := a_w_id (by omega) (by omega)
  have l1 := l_rd (n := n) (j := i + 1) hn (by omega) (by omega)
  have v1 := l_32 hJ (i + 1).toNat
  have w2 : e_w (i + 2) = i + 2 := a_w_id (by omega) (by omega)
  have l2 := l_rd (n := n) (j := i + 2) hn (by omega) (by omega)
  have v2 := l_32 hJ (i + 2).toNat
  have w3 : e_w (i + 3) = i + 3 := a_w_id (by omega) (by omega)
  have l3 := l_rd (n := n) (j := i + 3) hn (by omega) (by omega)
  have v3 := l_32 hJ (i + 3).toNat
  obtain ⟨r1, M1, k1, -, q3, q4⟩ := a_entry a_c106 (as := [8, M 0 (i + 1).toNat, M 0 (i + 2).toNat, M 0 (i + 3).toNat]) (M := M) ⟨List.mem_cons_self, a_gi v1.1 v1.2, a_gi v2.1 v2.2, a_gi v3.1 v3.2, trivial⟩ hJ.1
  have t1 := l_cl hJ q3 q4 (by decide +kernel)
  have s1 := l_s0_st t1
  have e1 := s1.2.1
  have J1 := s1.1
  have n1 : M1 5 1 = n := s1.2.2.1.trans hn
  have m1 : e_op 60 [0, i + 1] M1 = some (M 0 (i + 1).toNat) := (l_rd n1 (by omega) (by omega)).trans (congrArg some (e1 _))
  have m2 : e_op 60 [0, i + 2] M1 = some (M 0 (i + 2).toNat) := (l_rd n1 (by omega) (by omega)).trans (congrArg some (e1 _))
  have m3 : e_op 60 [0, i + 3] M1 = some (M 0 (i + 3).toNat) := (l_rd n1 (by omega) (by omega)).trans (congrArg some (e1 _))
  have hr : r_T [] 195 [192, M 0 (i + 1).toNat, M 0 (i + 2).toNat, M 0 (i + 3).toNat] M1 := r_Tq J1 (r_point J1)
  obtain ⟨r2, M2, k2, s2, f2⟩ := l_rfF hr (by decide +kernel)
  have RR : h_R M2 := ⟨p_keep (by decide +kernel) (by decide +kernel) f2 (p_keep (by decide +kernel) (by decide +kernel) q4 hR.1), h_keB (by decide +kernel) f2 (h_keB (by decide +kernel) q4 hR.2.1), h_keI (by decide +kernel) f2 (h_keI (by decide +kernel) q4 hR.2.2.1), h_keS (by decide +kernel) f2 (h_keS (by decide +kernel) q4 hR.2.2.2.1), h_keF (by decide +kernel) f2 (h_keF (by decide +kernel) q4 hR.2.2.2.2)⟩
  have RQ : h_Q M2 := ⟨h_ke1 (by decide +kernel) f2 (h_ke1 (by decide +kernel) q4 hQ.1), h_keC (by decide +kernel) f2 (h_keB (by decide +kernel) q4 hR.2.1) (h_keC (by decide +kernel) q4 hR.2.1 hQ.2.1), h_keCI (by decide +kernel) f2 (h_keI (by decide +kernel) q4 hR.2.2.1) (h_keCI (by decide +kernel) q4 hR.2.2.1 hQ.2.2.1), h_keK (by decide +kernel) f2 (h_keK (by decide +kernel) q4 hQ.2.2.2.1), h_keKI (by decide +kernel) f2 (h_keKI (by decide +kernel) q4 hQ.2.2.2.2)⟩
  have K1 : rx_K M1 := hd_KW (by decide +kernel) q4 hZ.2.2.1
  have RZ : h_Z M2 := ⟨hd_ke (by decide +kernel) f2 (h_keB (by decide +kernel) q4 hR.2.1) (hd_ke (by decide +kernel) q4 hR.2.1 hZ.1), hd_keI (by decide +kernel) f2 (h_keI (by decide +kernel) q4 hR.2.2.1) (hd_keI (by decide +kernel) q4 hR.2.2.1 hZ.2.1), rx_Kc (by decide) k2 K1, hd_0 (by decide +kernel) f2 (gz_c (by decide) (by decide) hJ k1 hZ.2.2.2)⟩
  refine ⟨x5, x6, x7, M2, hd2.trans ?_, l_st_s0 s1 s2, ⟨⟨RR, RQ⟩, RZ⟩⟩
  rw [E_V_eq]
  show e_tv E_C (E_V 274) e_t274_286 [0, 8, 192, 213, i, x5, x6, x7] M = _
  unfold e_t274_286
  simp [zq_a, zq_b, zq_c, zq_d, zq_e, zq_f, zq_g, zq_h, zq_i, zq_j, zq_k, zq_l, zq_m, zq_n, zq_o, zq_p, zq_q, zq_r, zq_s, zq_t, zq_u, zq_v, zq_w, zq_x, zq_y, zq_z, zq_A, zq_B, zq_C, zq_D, zq_E, zq_F, zq_G, zq_H, zq_I, zq_J, zq_K, zq_L, ↓zq_M, ↓zq_N, ↓zq_O, ↓zq_P, ↓zq_Q, ↓zq_R, zq_S, zq_T, zq_U, zq_V, zq_W, zq_X, zq_Y, zq_Z, zq_0, zq_1, zq_2, zq_3, zq_4, zq_5, ↓zq_6, ↓zq_7, ↓zq_8, ↓zq_9, ↓zq_aa, zq_ab, zq_ac, zq_ad, zq_ae, zq_af, zq_ag, ↓zq_ah, ↓zq_ai, ↓zq_aj, zq_ak, ↓zq_al, ↓zq_am, e_b1, e_b2, x_o1, x_o2, w1, l1, m1, w2, l2, m2, w3, l3, m3, k1, k2]
/-- set -/
theorem l_c3 {n i x5 x6 x7 : Int} {M : EM} (hi : 0 ≤ i ∧ i + 6 ≤ n ∧ n ≤ 3072) (hJ : r_J M) (hRD : h_RD M) (hn : M 5 1 = n) (hv : e_bit (fun x y => x &&& y) (M 0 i.toNat) 63 = 3) : ∃ y5 y6 y7 M1, E_V 274 23 [0, 8, 192, 213, i, x5, x6, x7] M = E_V 274 1903 [0, 8, 192, 213, i, y5, y6, y7] M1 ∧ l_st M M1 ∧ h_RD M1 := by
  obtain ⟨⟨hR, hQ⟩, hZ⟩ := hRD
  have hd := l_head (x5 := x5) (x6 := x6) (x7 := x7) hi hn
  rw [hv] at hd
  have hd2 : E_V 274 23 [0, 8, 192, 213, i, x5, x6, x7] M = E_V 274 335 [0, 8, 192, 213, i, x5, x6, x7] M := hd
  have w1 : e_w (i + 1) = i + 1 := a_w_id (by omega) (by omega)
  have l1 := l_rd (n := n) (j := i + 1) hn (by omega) (by omega)
  have v1 := l_32 hJ (i + 1).toNat
  have w2 : e_w (i + 2) = i + 2 := a_w_id (by omega) (by omega)
  have l2 := l_rd (n := n) (j := i + 2) hn (by omega) (by omega)
  have v2 := l_32 hJ (i + 2).toNat
  have w3 : e_w (i + 3) = i + 3 := a_w_id (by omega) (by omega)
  have l3 := l_rd (n := n) (j := i + 3) hn (by omega) (by omega)
  have v3 := l_32 hJ (i + 3).toNat
  obtain ⟨r1, M1, k1, -, q3, q4⟩ := a_entry a_c107 (as := [8, M 0 (i + 1).toNat, M 0 (i + 2).toNat, M 0 (i + 3).toNat]) (M := M) ⟨List.mem_cons_self, a_gi v1.1 v1.2, a_gi v2.1 v2.2, a_gi v3.1 v3.2, trivial⟩ hJ.1
  have t1 := l_cl hJ q3 q4 (by decide +kernel)
  have s1 := l_s0_st t1
  have e1 := s1.2.1
  have J1 := s1.1
  have n1 : M1 5 1 = n := s1.2.2.1.trans hn
  have m1 : e_op 60 [0, i + 1] M1 = some (M 0 (i + 1).toNat) := (l_rd n1 (by omega) (by omega)).trans (congrArg some (e1 _))
  have m2 : e_op 60 [0, i + 2] M1 = some (M 0 (i + 2).toNat) := (l_rd n1 (by omega) (by omega)).trans (congrArg some (e1 _))
  have m3 : e_op 60 [0, i + 3] M1 = some (M 0 (i + 3).toNat) := (l_rd n1 (by omega) (by omega)).trans (congrArg some (e1 _))
  have hr : r_T r_wSt 196 [192, M 0 (i + 1).toNat, M 0 (i + 2).toNat, M 0 (i + 3).toNat] M1 := r_set J1 v3
  obtain ⟨r2, M2, k2, s2, f2⟩ := l_rfF hr (by decide +kernel)
  have RR : h_R M2 := ⟨p_keep (by decide +kernel) (by decide +kernel) f2 (p_keep (by decide +kernel) (by decide +kernel) q4 hR.1), h_keB (by decide +kernel) f2 (h_keB (by decide +kernel) q4 hR.2.1), h_keI (by decide +kernel) f2 (h_keI (by decide +kernel) q4 hR.2.2.1), h_keS (by decide +kernel) f2 (h_keS (by decide +kernel) q4 hR.2.2.2.1), h_keF (by decide +kernel) f2 (h_keF (by decide +kernel) q4 hR.2.2.2.2)⟩
  have hU := h_sets hQ.1 J1 hR.2.1 hQ.2.1 (fun i => (h_cG q4 (by decide +kernel)) 193 i (by decide)) k1 k2
  have RQ : h_Q M2 := ⟨h_ke1 (by decide +kernel) f2 (h_ke1 (by decide +kernel) q4 hQ.1), hU.2, h_keCI (by decide +kernel) f2 (h_keI (by decide +kernel) q4 hR.2.2.1) (h_keCI (by decide +kernel) q4 hR.2.2.1 hQ.2.2.1), h_keK (by decide +kernel) f2 (h_keK (by decide +kernel) q4 hQ.2.2.2.1), h_keKI (by decide +kernel) f2 (h_keKI (by decide +kernel) q4 hQ.2.2.2.2)⟩
  have K1 : rx_K M1 := hd_KW (by decide +kernel) q4 hZ.2.2.1
  have RZ : h_Z M2 := ⟨hd_setD J1 (hd_ke (by decide +kernel) q4 hR.2.1 hZ.1) k2, hd_keI (by decide +kernel) f2 (h_keI (by decide +kernel) q4 hR.2.2.1) (hd_keI (by decide +kernel) q4 hR.2.2.1 hZ.2.1), rx_Kc (by decide) k2 K1, hd_0 (by decide +kernel) f2 (hd_0 (by decide +kernel) q4 hZ.2.2.2)⟩
  refine ⟨x5, x6, x7, M2, hd2.trans ?_, l_st_s0 s1 s2, ⟨⟨RR, RQ⟩, RZ⟩⟩
  rw [E_V_eq]
  show e_tv E_C (E_V 274) e_t274_335 [0, 8, 192, 213, i, x5, x6, x7] M = _
  unfold e_t274_335
  simp [zq_a, zq_b, zq_c, zq_d, zq_e, zq_f, zq_g, zq_h, zq_i, zq_j, zq_k, zq_l, zq_m, zq_n, zq_o, zq_p, zq_q, zq_r, zq_s, zq_t, zq_u, zq_v, zq_w, zq_x, zq_y, zq_z, zq_A, zq_B, zq_C, zq_D, zq_E, zq_F, zq_G, zq_H, zq_I, zq_J, zq_K, zq_L, ↓zq_M, ↓zq_N, ↓zq_O, ↓zq_P, ↓zq_Q, ↓zq_R, zq_S, zq_T, zq_U, zq_V, zq_W, zq_X, zq_Y, zq_Z, zq_0, zq_1, zq_2, zq_3, zq_4, zq_5, ↓zq_6, ↓zq_7, ↓zq_8, ↓zq_9, ↓zq_aa, zq_ab, zq_ac, zq_ad, zq_ae, zq_af, zq_ag, ↓zq_ah, ↓zq_ai, ↓zq_aj, zq_ak, ↓zq_al, ↓zq_am, e_b1, e_b2, x_o1, x_o2, w1, l1, m1, w2, l2, m2, w3, l3, m3, k1, k2]
/-- dead -/
theorem l_c4 {n i x5 x6 x7 : Int} {M : EM} (hi : 0 ≤ i ∧ i + 6 ≤ n ∧ n ≤ 3072) (hJ : r_J M) (hRD : h_RD M) (hn : M 5 1 = n) (hv : e_bit (fun x y => x &&& y) (M 0 i.toNat) 63 = 4) : ∃ y5 y6 y7 M1, E_V 274 23 [0, 8, 192, 213, i, x5, x6, x7] M = E_V 274 1903 [0, 8, 192, 213, i, y5, y6, y7] M1 ∧ l_st M M1 ∧ h_RD M1 := by
  obtain ⟨⟨hR, hQ⟩, hZ⟩ := hRD
  have hd := l_head (x5 := x5) (x6 := x6) (x7 := x7) hi hn
  rw [hv] at hd
  have hd2 : E_V 274 23 [0, 8, 192, 213, i, x5, x6, x7] M = E_V 274 384 [0, 8, 192, 213, i, x5, x6, x7] M := hd
  have w1 : e_w (i + 1) = i + 1 := a_w_id (by omega) (by omega)
  have l1 := l_rd (n := n) (j := i + 1) hn (by omega) (by omega)
  have v1 := l_32 hJ (i + 1).toNat
  have w2 : e_w (i + 2) = i + 2 := a_w_id (by omega) (by omega)
  have l2 := l_rd (n := n) (j := i + 2) hn (by omega) (by omega)
  have v2 := l_32 hJ (i + 2).toNat
  obtain ⟨b, hb⟩ : ∃ b : Int, b = if M 0 (i + 2).toNat = 0 then 0 else 1 := ⟨_, rfl⟩
  have hb01 : 0 ≤ b ∧ b ≤ 1 := by
    by_cases c : M 0 (i + 2).toNat = 0
    · rw [if_pos c] at hb; omega
    · rw [if_neg c] at hb; omega
  obtain ⟨r1, M1, k1, -, q3, q4⟩ := a_entry a_c108 (as := [8, M 0 (i + 1).toNat, b]) (M := M) ⟨List.mem_cons_self, a_gi v1.1 v1.2, a_gi hb01.1 hb01.2, trivial⟩ hJ.1
  have t1 := l_cl hJ q3 q4 (by decide +kernel)
  have s1 := l_s0_st t1
  have e1 := s1.2.1
  have J1 := s1.1
  have n1 : M1 5 1 = n := s1.2.2.1.trans hn
  have m1 : e_op 60 [0, i + 1] M1 = some (M 0 (i + 1).toNat) := (l_rd n1 (by omega) (by omega)).trans (congrArg some (e1 _))
  have m2 : e_op 60 [0, i + 2] M1 = some (M 0 (i + 2).toNat) := (l_rd n1 (by omega) (by omega)).trans (congrArg some (e1 _))
  have hr : r_T r_wSt 197 [192, M 0 (i + 1).toNat, b] M1 := r_dead J1
  obtain ⟨r2, M2, k2, s2, f2⟩ := l_rfF hr (by decide +kernel)
  have RR : h_R M2 := ⟨p_keep (by decide +kernel) (by decide +kernel) f2 (p_keep (by decide +kernel) (by decide +kernel) q4 hR.1), h_keB (by decide +kernel) f2 (h_keB (by decide +kernel) q4 hR.2.1), h_keI (by decide +kernel) f2 (h_keI (by decide +kernel) q4 hR.2.2.1), h_keS (by decide +kernel) f2 (h_keS (by decide +kernel) q4 hR.2.2.2.1), h_keF (by decide +kernel) f2 (h_keF (by decide +kernel) q4 hR.2.2.2.2)⟩
  have hU := h_deads J1 hR.2.1 hQ.2.1 (by omega) (fun i => (h_cG q4 (by decide +kernel)) 193 i (by decide)) k1 k2
  have RQ : h_Q M2 := ⟨h_ke1 (by decide +kernel) f2 (h_ke1 (by decide +kernel) q4 hQ.1), hU.2, h_keCI (by decide +kernel) f2 (h_keI (by decide +kernel) q4 hR.2.2.1) (h_keCI (by decide +kernel) q4 hR.2.2.1 hQ.2.2.1), h_keK (by decide +kernel) f2 (h_keK (by decide +kernel) q4 hQ.2.2.2.1), h_keKI (by decide +kernel) f2 (h_keKI (by decide +kernel) q4 hQ.2.2.2.2)⟩
  have K1 : rx_K M1 := hd_KW (by decide +kernel) q4 hZ.2.2.1
  have RZ : h_Z M2 := ⟨hd_deadD J1 (hd_ke (by decide +kernel) q4 hR.2.1 hZ.1) (hd_dz (fun i => (h_cG q4 (by decide +kernel)) 193 i (by decide)) hQ.2.1) (by omega) k2, hd_keI (by decide +kernel) f2 (h_keI (by decide +kernel) q4 hR.2.2.1) (hd_keI (by decide +kernel) q4 hR.2.2.1 hZ.2.1), rx_Kc (by decide) k2 K1, hd_0 (by decide +kernel) f2 (hd_0 (by decide +kernel) q4 hZ.2.2.2)⟩
  refine ⟨x5, x6, x7, M2, hd2.trans ?_, l_st_s0 s1 s2, ⟨⟨RR, RQ⟩, RZ⟩⟩
  rw [E_V_eq]
  show e_tv E_C (E_V 274) e_t274_384 [0, 8, 192, 213, i, x5, x6, x7] M = _
  unfold e_t274_384
  by_cases c : M 0 (i + 2).toNat = 0
  · rw [if_pos c] at hb
    subst hb
    simp [zq_a, zq_b, zq_c, zq_d, zq_e, zq_f, zq_g, zq_h, zq_i, zq_j, zq_k, zq_l, zq_m, zq_n, zq_o, zq_p, zq_q, zq_r, zq_s, zq_t, zq_u, zq_v, zq_w, zq_x, zq_y, zq_z, zq_A, zq_B, zq_C, zq_D, zq_E, zq_F, zq_G, zq_H, zq_I, zq_J, zq_K, zq_L, ↓zq_M, ↓zq_N, ↓zq_O, ↓zq_P, ↓zq_Q, ↓zq_R, zq_S, zq_T, zq_U, zq_V, zq_W, zq_X, zq_Y, zq_Z, zq_0, zq_1, zq_2, zq_3, zq_4, zq_5, ↓zq_6, ↓zq_7, ↓zq_8, ↓zq_9, ↓zq_aa, zq_ab, zq_ac, zq_ad, zq_ae, zq_af, zq_ag, ↓zq_ah, ↓zq_ai, ↓zq_aj, zq_ak, ↓zq_al, ↓zq_am, e_b1, e_b2, x_o1, x_o2, w1, l1, m1, w2, l2, m2, k1, k2, c]
  · rw [if_neg c] at hb
    subst hb
    simp [zq_a, zq_b, zq_c, zq_d, zq_e, zq_f, zq_g, zq_h, zq_i, zq_j, zq_k, zq_l, zq_m, zq_n, zq_o, zq_p, zq_q, zq_r, zq_s, zq_t, zq_u, zq_v, zq_w, zq_x, zq_y, zq_z, zq_A, zq_B, zq_C, zq_D, zq_E, zq_F, zq_G, zq_H, zq_I, zq_J, zq_K, zq_L, ↓zq_M, ↓zq_N, ↓zq_O, ↓zq_P, ↓zq_Q, ↓zq_R, zq_S, zq_T, zq_U, zq_V, zq_W, zq_X, zq_Y, zq_Z, zq_0, zq_1, zq_2, zq_3, zq_4, zq_5, ↓zq_6, ↓zq_7, ↓zq_8, ↓zq_9, ↓zq_aa, zq_ab, zq_ac, zq_ad, zq_ae, zq_af, zq_ag, ↓zq_ah, ↓zq_ai, ↓zq_aj, zq_ak, ↓zq_al, ↓zq_am, e_b1, e_b2, x_o1, x_o2, w1, l1, m1, w2, l2, m2, k1, k2, c]
/-- push -/
theorem l_c5 {n i x5 x6 x7 : Int} {M : EM} (hi : 0 ≤ i ∧ i + 6 ≤ n ∧ n ≤ 3072) (hJ : r_J M) (hRD : h_RD M) (hn : M 5 1 = n) (hv : e_bit (fun x y => x &&& y) (M 0 i.toNat) 63 = 5) : ∃ y5 y6 y7 M1, E_V 274 23 [0, 8, 192, 213, i, x5, x6, x7] M = E_V 274 1903 [0, 8, 192, 213, i, y5, y6, y7] M1 ∧ l_st M M1 ∧ h_RD M1 := by
  obtain ⟨⟨hR, hQ⟩, hZ⟩ := hRD
  have hd := l_head (x5 := x5) (x6 := x6) (x7 := x7) hi hn
  rw [hv] at hd
  have hd2 : E_V 274 23 [0, 8, 192, 213, i, x5, x6, x7] M = E_V 274 437 [0, 8, 192, 213, i, x5, x6, x7] M := hd
  have w1 : e_w (i + 1) = i + 1 := a_w_id (by omega) (by omega)
  have l1 := l_rd (n := n) (j := i + 1) hn (by omega) (by omega)
  have v1 := l_32 hJ (i + 1).toNat
  have w2 : e_w (i + 2) = i + 2 := a_w_id (by omega) (by omega)
  have l2 := l_rd (n := n) (j := i + 2) hn (by omega) (by omega)
  have v2 := l_32 hJ (i + 2).toNat
  obtain ⟨r1, M1, k1, s1, q4⟩ := l_pushF hJ v1 v2
  have e1 := s1.2.1
  have J1 := s1.1
  have n1 : M1 5 1 = n := s1.2.2.1.trans hn
  have m1 : e_op 60 [0, i + 1] M1 = some (M 0 (i + 1).toNat) := (l_rd n1 (by omega) (by omega)).trans (congrArg some (e1 _))
  have m2 : e_op 60 [0, i + 2] M1 = some (M 0 (i + 2).toNat) := (l_rd n1 (by omega) (by omega)).trans (congrArg some (e1 _))
  have hr : r_T [] 206 [192, M 0 (i + 1).toNat, M 0 (i + 2).toNat] M1 := r_Tq J1 (r_push J1)
  obtain ⟨r2, M2, k2, s2, f2⟩ := l_rfF hr (by decide +kernel)
  have RR : h_R M2 := ⟨p_keep (by decide +kernel) (by decide +kernel) f2 (p_keep (by decide +kernel) (by decide +kernel) q4 hR.1), h_keB (by decide +kernel) f2 (h_keB (by decide +kernel) q4 hR.2.1), h_keI (by decide +kernel) f2 (h_keI (by decide +kernel) q4 hR.2.2.1), h_keS (by decide +kernel) f2 (h_keS (by decide +kernel) q4 hR.2.2.2.1), h_keF (by decide +kernel) f2 (h_keF (by decide +kernel) q4 hR.2.2.2.2)⟩
  have RQ : h_Q M2 := ⟨h_ke1 (by decide +kernel) f2 (h_ke1 (by decide +kernel) q4 hQ.1), h_keC (by decide +kernel) f2 (h_keB (by decide +kernel) q4 hR.2.1) (h_keC (by decide +kernel) q4 hR.2.1 hQ.2.1), h_keCI (by decide +kernel) f2 (h_keI (by decide +kernel) q4 hR.2.2.1) (h_keCI (by decide +kernel) q4 hR.2.2.1 hQ.2.2.1), h_keK (by decide +kernel) f2 (h_keK (by decide +kernel) q4 hQ.2.2.2.1), h_keKI (by decide +kernel) f2 (h_keKI (by decide +kernel) q4 hQ.2.2.2.2)⟩
  have K1 : rx_K M1 := hd_KW (by decide +kernel) q4 hZ.2.2.1
  have RZ : h_Z M2 := ⟨hd_ke (by decide +kernel) f2 (h_keB (by decide +kernel) q4 hR.2.1) (hd_ke (by decide +kernel) q4 hR.2.1 hZ.1), hd_keI (by decide +kernel) f2 (h_keI (by decide +kernel) q4 hR.2.2.1) (hd_keI (by decide +kernel) q4 hR.2.2.1 hZ.2.1), rx_Kc (by decide) k2 K1, hd_0 (by decide +kernel) f2 (gz_c (by decide) (by decide) hJ k1 hZ.2.2.2)⟩
  refine ⟨r1, r2, x7, M2, hd2.trans ?_, l_st_s0 s1 s2, ⟨⟨RR, RQ⟩, RZ⟩⟩
  rw [E_V_eq]
  show e_tv E_C (E_V 274) e_t274_437 [0, 8, 192, 213, i, x5, x6, x7] M = _
  unfold e_t274_437
  simp [zq_a, zq_b, zq_c, zq_d, zq_e, zq_f, zq_g, zq_h, zq_i, zq_j, zq_k, zq_l, zq_m, zq_n, zq_o, zq_p, zq_q, zq_r, zq_s, zq_t, zq_u, zq_v, zq_w, zq_x, zq_y, zq_z, zq_A, zq_B, zq_C, zq_D, zq_E, zq_F, zq_G, zq_H, zq_I, zq_J, zq_K, zq_L, ↓zq_M, ↓zq_N, ↓zq_O, ↓zq_P, ↓zq_Q, ↓zq_R, zq_S, zq_T, zq_U, zq_V, zq_W, zq_X, zq_Y, zq_Z, zq_0, zq_1, zq_2, zq_3, zq_4, zq_5, ↓zq_6, ↓zq_7, ↓zq_8, ↓zq_9, ↓zq_aa, zq_ab, zq_ac, zq_ad, zq_ae, zq_af, zq_ag, ↓zq_ah, ↓zq_ai, ↓zq_aj, zq_ak, ↓zq_al, ↓zq_am, e_b1, e_b2, x_o1, x_o2, w1, l1, m1, w2, l2, m2, k1, k2]
/-- current -/
theorem l_c6 {n i x5 x6 x7 : Int} {M : EM} (hi : 0 ≤ i ∧ i + 6 ≤ n ∧ n ≤ 3072) (hJ : r_J M) (hRD : h_RD M) (hn : M 5 1 = n) (hv : e_bit (fun x y => x &&& y) (M 0 i.toNat) 63 = 6) : ∃ y5 y6 y7 M1, E_V 274 23 [0, 8, 192, 213, i, x5, x6, x7] M = E_V 274 1903 [0, 8, 192, 213, i, y5, y6, y7] M1 ∧ l_st M M1 ∧ h_RD M1 := by
  obtain ⟨⟨hR, hQ⟩, hZ⟩ := hRD
  have hd := l_head (x5 := x5) (x6 := x6) (x7 := x7) hi hn
  rw [hv] at hd
  have hd2 : E_V 274 23 [0, 8, 192, 213, i, x5, x6, x7] M = E_V 274 477 [0, 8, 192, 213, i, x5, x6, x7] M := hd
  have w1 : e_w (i + 1) = i + 1 := a_w_id (by omega) (by omega)
  have l1 := l_rd (n := n) (j := i + 1) hn (by omega) (by omega)
  have v1 := l_32 hJ (i + 1).toNat
  have w2 : e_w (i + 2) = i + 2 := a_w_id (by omega) (by omega)
  have l2 := l_rd (n := n) (j := i + 2) hn (by omega) (by omega)
  have v2 := l_32 hJ (i + 2).toNat
  obtain ⟨r1, M1, k1, -, q3, q4⟩ := a_entry a_c110 (as := [8, M 0 (i + 1).toNat, M 0 (i + 2).toNat]) (M := M) ⟨List.mem_cons_self, a_gi v1.1 v1.2, a_gi v2.1 v2.2, trivial⟩ hJ.1
  have t1 := l_cl hJ q3 q4 (by decide +kernel)
  have s1 := l_s0_st t1
  have e1 := s1.2.1
  have J1 := s1.1
  have n1 : M1 5 1 = n := s1.2.2.1.trans hn
  have m1 : e_op 60 [0, i + 1] M1 = some (M 0 (i + 1).toNat) := (l_rd n1 (by omega) (by omega)).trans (congrArg some (e1 _))
  have m2 : e_op 60 [0, i + 2] M1 = some (M 0 (i + 2).toNat) := (l_rd n1 (by omega) (by omega)).trans (congrArg some (e1 _))
  have hr : r_T [] 207 [192, M 0 (i + 1).toNat, M 0 (i + 2).toNat] M1 := r_Tq J1 (r_current J1)
  obtain ⟨r2, M2, k2, s2, f2⟩ := l_rfF hr (by decide +kernel)
  have RR : h_R M2 := ⟨p_keep (by decide +kernel) (by decide +kernel) f2 (p_keep (by decide +kernel) (by decide +kernel) q4 hR.1), h_keB (by decide +kernel) f2 (h_keB (by decide +kernel) q4 hR.2.1), h_keI (by decide +kernel) f2 (h_keI (by decide +kernel) q4 hR.2.2.1), h_keS (by decide +kernel) f2 (h_keS (by decide +kernel) q4 hR.2.2.2.1), h_keF (by decide +kernel) f2 (h_keF (by decide +kernel) q4 hR.2.2.2.2)⟩
  have RQ : h_Q M2 := ⟨h_ke1 (by decide +kernel) f2 (h_ke1 (by decide +kernel) q4 hQ.1), h_keC (by decide +kernel) f2 (h_keB (by decide +kernel) q4 hR.2.1) (h_keC (by decide +kernel) q4 hR.2.1 hQ.2.1), h_keCI (by decide +kernel) f2 (h_keI (by decide +kernel) q4 hR.2.2.1) (h_keCI (by decide +kernel) q4 hR.2.2.1 hQ.2.2.1), h_keK (by decide +kernel) f2 (h_keK (by decide +kernel) q4 hQ.2.2.2.1), h_keKI (by decide +kernel) f2 (h_keKI (by decide +kernel) q4 hQ.2.2.2.2)⟩
  have K1 : rx_K M1 := hd_KW (by decide +kernel) q4 hZ.2.2.1
  have RZ : h_Z M2 := ⟨hd_ke (by decide +kernel) f2 (h_keB (by decide +kernel) q4 hR.2.1) (hd_ke (by decide +kernel) q4 hR.2.1 hZ.1), hd_keI (by decide +kernel) f2 (h_keI (by decide +kernel) q4 hR.2.2.1) (hd_keI (by decide +kernel) q4 hR.2.2.1 hZ.2.1), rx_Kc (by decide) k2 K1, hd_0 (by decide +kernel) f2 (gz_c (by decide) (by decide) hJ k1 hZ.2.2.2)⟩
  refine ⟨x5, x6, x7, M2, hd2.trans ?_, l_st_s0 s1 s2, ⟨⟨RR, RQ⟩, RZ⟩⟩
  rw [E_V_eq]
  show e_tv E_C (E_V 274) e_t274_477 [0, 8, 192, 213, i, x5, x6, x7] M = _
  unfold e_t274_477
  simp [zq_a, zq_b, zq_c, zq_d, zq_e, zq_f, zq_g, zq_h, zq_i, zq_j, zq_k, zq_l, zq_m, zq_n, zq_o, zq_p, zq_q, zq_r, zq_s, zq_t, zq_u, zq_v, zq_w, zq_x, zq_y, zq_z, zq_A, zq_B, zq_C, zq_D, zq_E, zq_F, zq_G, zq_H, zq_I, zq_J, zq_K, zq_L, ↓zq_M, ↓zq_N, ↓zq_O, ↓zq_P, ↓zq_Q, ↓zq_R, zq_S, zq_T, zq_U, zq_V, zq_W, zq_X, zq_Y, zq_Z, zq_0, zq_1, zq_2, zq_3, zq_4, zq_5, ↓zq_6, ↓zq_7, ↓zq_8, ↓zq_9, ↓zq_aa, zq_ab, zq_ac, zq_ad, zq_ae, zq_af, zq_ag, ↓zq_ah, ↓zq_ai, ↓zq_aj, zq_ak, ↓zq_al, ↓zq_am, e_b1, e_b2, x_o1, x_o2, w1, l1, m1, w2, l2, m2, k1, k2]
/-- best -/
theorem l_c7 {n i x5 x6 x7 : Int} {M : EM} (hi : 0 ≤ i ∧ i + 6 ≤ n ∧ n ≤ 3072) (hJ : r_J M) (hRD : h_RD M) (hn : M 5 1 = n) (hv : e_bit (fun x y => x &&& y) (M 0 i.toNat) 63 = 7) : ∃ y5 y6 y7 M1, E_V 274 23 [0, 8, 192, 213, i, x5, x6, x7] M = E_V 274 1903 [0, 8, 192, 213, i, y5, y6, y7] M1 ∧ l_st M M1 ∧ h_RD M1 := by
  obtain ⟨⟨hR, hQ⟩, hZ⟩ := hRD
  have hd := l_head (x5 := x5) (x6 := x6) (x7 := x7) hi hn
  rw [hv] at hd
  have hd2 : E_V 274 23 [0, 8, 192, 213, i, x5, x6, x7] M = E_V 274 514 [0, 8, 192, 213, i, x5, x6, x7] M := hd
  have w1 : e_w (i + 1) = i + 1 := a_w_id (by omega) (by omega)
  have l1 := l_rd (n := n) (j := i + 1) hn (by omega) (by omega)
  have v1 := l_32 hJ (i + 1).toNat
  have w2 : e_w (i + 2) = i + 2 := a_w_id (by omega) (by omega)
  have l2 := l_rd (n := n) (j := i + 2) hn (by omega) (by omega)
  have v2 := l_32 hJ (i + 2).toNat
  obtain ⟨r1, M1, k1, -, q3, q4⟩ := a_entry a_c111 (as := [8, M 0 (i + 1).toNat, M 0 (i + 2).toNat]) (M := M) ⟨List.mem_cons_self, a_gi v1.1 v1.2, a_gi v2.1 v2.2, trivial⟩ hJ.1
  have t1 := l_cl hJ q3 q4 (by decide +kernel)
  have s1 := l_s0_st t1
  have e1 := s1.2.1
  have J1 := s1.1
  have n1 : M1 5 1 = n := s1.2.2.1.trans hn
  have m1 : e_op 60 [0, i + 1] M1 = some (M 0 (i + 1).toNat) := (l_rd n1 (by omega) (by omega)).trans (congrArg some (e1 _))
  have m2 : e_op 60 [0, i + 2] M1 = some (M 0 (i + 2).toNat) := (l_rd n1 (by omega) (by omega)).trans (congrArg some (e1 _))
  have hr : r_T [] 210 [192, M 0 (i + 1).toNat, M 0 (i + 2).toNat] M1 := r_Tq J1 (r_best J1)
  obtain ⟨r2, M2, k2, s2, f2⟩ := l_rfF hr (by decide +kernel)
  have RR : h_R M2 := ⟨p_keep (by decide +kernel) (by decide +kernel) f2 (p_keep (by decide +kernel) (by decide +kernel) q4 hR.1), h_keB (by decide +kernel) f2 (h_keB (by decide +kernel) q4 hR.2.1), h_keI (by decide +kernel) f2 (h_keI (by decide +kernel) q4 hR.2.2.1), h_keS (by decide +kernel) f2 (h_keS (by decide +kernel) q4 hR.2.2.2.1), h_keF (by decide +kernel) f2 (h_keF (by decide +kernel) q4 hR.2.2.2.2)⟩
  have RQ : h_Q M2 := ⟨h_ke1 (by decide +kernel) f2 (h_ke1 (by decide +kernel) q4 hQ.1), h_keC (by decide +kernel) f2 (h_keB (by decide +kernel) q4 hR.2.1) (h_keC (by decide +kernel) q4 hR.2.1 hQ.2.1), h_keCI (by decide +kernel) f2 (h_keI (by decide +kernel) q4 hR.2.2.1) (h_keCI (by decide +kernel) q4 hR.2.2.1 hQ.2.2.1), h_keK (by decide +kernel) f2 (h_keK (by decide +kernel) q4 hQ.2.2.2.1), h_keKI (by decide +kernel) f2 (h_keKI (by decide +kernel) q4 hQ.2.2.2.2)⟩
  have K1 : rx_K M1 := hd_KW (by decide +kernel) q4 hZ.2.2.1
  have RZ : h_Z M2 := ⟨hd_ke (by decide +kernel) f2 (h_keB (by decide +kernel) q4 hR.2.1) (hd_ke (by decide +kernel) q4 hR.2.1 hZ.1), hd_keI (by decide +kernel) f2 (h_keI (by decide +kernel) q4 hR.2.2.1) (hd_keI (by decide +kernel) q4 hR.2.2.1 hZ.2.1), rx_Kc (by decide) k2 K1, hd_0 (by decide +kernel) f2 (gz_c (by decide) (by decide) hJ k1 hZ.2.2.2)⟩
  refine ⟨x5, x6, x7, M2, hd2.trans ?_, l_st_s0 s1 s2, ⟨⟨RR, RQ⟩, RZ⟩⟩
  rw [E_V_eq]
  show e_tv E_C (E_V 274) e_t274_514 [0, 8, 192, 213, i, x5, x6, x7] M = _
  unfold e_t274_514
  simp [zq_a, zq_b, zq_c, zq_d, zq_e, zq_f, zq_g, zq_h, zq_i, zq_j, zq_k, zq_l, zq_m, zq_n, zq_o, zq_p, zq_q, zq_r, zq_s, zq_t, zq_u, zq_v, zq_w, zq_x, zq_y, zq_z, zq_A, zq_B, zq_C, zq_D, zq_E, zq_F, zq_G, zq_H, zq_I, zq_J, zq_K, zq_L, ↓zq_M, ↓zq_N, ↓zq_O, ↓zq_P, ↓zq_Q, ↓zq_R, zq_S, zq_T, zq_U, zq_V, zq_W, zq_X, zq_Y, zq_Z, zq_0, zq_1, zq_2, zq_3, zq_4, zq_5, ↓zq_6, ↓zq_7, ↓zq_8, ↓zq_9, ↓zq_aa, zq_ab, zq_ac, zq_ad, zq_ae, zq_af, zq_ag, ↓zq_ah, ↓zq_ai, ↓zq_aj, zq_ak, ↓zq_al, ↓zq_am, e_b1, e_b2, x_o1, x_o2, w1, l1, m1, w2, l2, m2, k1, k2]
/-- hump -/
theorem l_c8 {n i x5 x6 x7 : Int} {M : EM} (hi : 0 ≤ i ∧ i + 6 ≤ n ∧ n ≤ 3072) (hJ : r_J M) (hRD : h_RD M) (hn : M 5 1 = n) (hv : e_bit (fun x y => x &&& y) (M 0 i.toNat) 63 = 8) : ∃ y5 y6 y7 M1, E_V 274 23 [0, 8, 192, 213, i, x5, x6, x7] M = E_V 274 1903 [0, 8, 192, 213, i, y5, y6, y7] M1 ∧ l_st M M1 ∧ h_RD M1 := by
  obtain ⟨⟨hR, hQ⟩, hZ⟩ := hRD
  have hd := l_head (x5 := x5) (x6 := x6) (x7 := x7) hi hn
  rw [hv] at hd
  have hd2 : E_V 274 23 [0, 8, 192, 213, i, x5, x6, x7] M = E_V 274 551 [0, 8, 192, 213, i, x5, x6, x7] M := hd
  have w1 : e_w (i + 1) = i + 1 := a_w_id (by omega) (by omega)
  have l1 := l_rd (n := n) (j := i + 1) hn (by omega) (by omega)
  have v1 := l_32 hJ (i + 1).toNat
  have w2 : e_w (i + 2) = i + 2 := a_w_id (by omega) (by omega)
  have l2 := l_rd (n := n) (j := i + 2) hn (by omega) (by omega)
  have v2 := l_32 hJ (i + 2).toNat
  obtain ⟨r1, M1, k1, -, q3, q4⟩ := a_entry a_c112 (as := [8, M 0 (i + 1).toNat, M 0 (i + 2).toNat]) (M := M) ⟨List.mem_cons_self, a_gi v1.1 v1.2, a_gi v2.1 v2.2, trivial⟩ hJ.1
  have t1 := l_cl hJ q3 q4 (by decide +kernel)
  have s1 := l_s0_st t1
  have e1 := s1.2.1
  have J1 := s1.1
  have n1 : M1 5 1 = n := s1.2.2.1.trans hn
  have m1 : e_op 60 [0, i + 1] M1 = some (M 0 (i + 1).toNat) := (l_rd n1 (by omega) (by omega)).trans (congrArg some (e1 _))
  have m2 : e_op 60 [0, i + 2] M1 = some (M 0 (i + 2).toNat) := (l_rd n1 (by omega) (by omega)).trans (congrArg some (e1 _))
  have hr : r_T [] 212 [192, M 0 (i + 1).toNat, M 0 (i + 2).toNat] M1 := r_Tq J1 (r_hump J1)
  obtain ⟨r2, M2, k2, s2, f2⟩ := l_rfF hr (by decide +kernel)
  have RR : h_R M2 := ⟨p_keep (by decide +kernel) (by decide +kernel) f2 (p_keep (by decide +kernel) (by decide +kernel) q4 hR.1), h_keB (by decide +kernel) f2 (h_keB (by decide +kernel) q4 hR.2.1), h_keI (by decide +kernel) f2 (h_keI (by decide +kernel) q4 hR.2.2.1), h_keS (by decide +kernel) f2 (h_keS (by decide +kernel) q4 hR.2.2.2.1), h_keF (by decide +kernel) f2 (h_keF (by decide +kernel) q4 hR.2.2.2.2)⟩
  have RQ : h_Q M2 := ⟨h_ke1 (by decide +kernel) f2 (h_ke1 (by decide +kernel) q4 hQ.1), h_keC (by decide +kernel) f2 (h_keB (by decide +kernel) q4 hR.2.1) (h_keC (by decide +kernel) q4 hR.2.1 hQ.2.1), h_keCI (by decide +kernel) f2 (h_keI (by decide +kernel) q4 hR.2.2.1) (h_keCI (by decide +kernel) q4 hR.2.2.1 hQ.2.2.1), h_keK (by decide +kernel) f2 (h_keK (by decide +kernel) q4 hQ.2.2.2.1), h_keKI (by decide +kernel) f2 (h_keKI (by decide +kernel) q4 hQ.2.2.2.2)⟩
  have K1 : rx_K M1 := hd_KW (by decide +kernel) q4 hZ.2.2.1
  have RZ : h_Z M2 := ⟨hd_ke (by decide +kernel) f2 (h_keB (by decide +kernel) q4 hR.2.1) (hd_ke (by decide +kernel) q4 hR.2.1 hZ.1), hd_keI (by decide +kernel) f2 (h_keI (by decide +kernel) q4 hR.2.2.1) (hd_keI (by decide +kernel) q4 hR.2.2.1 hZ.2.1), rx_Kc (by decide) k2 K1, hd_0 (by decide +kernel) f2 (gz_c (by decide) (by decide) hJ k1 hZ.2.2.2)⟩
  refine ⟨x5, x6, x7, M2, hd2.trans ?_, l_st_s0 s1 s2, ⟨⟨RR, RQ⟩, RZ⟩⟩
  rw [E_V_eq]
  show e_tv E_C (E_V 274) e_t274_551 [0, 8, 192, 213, i, x5, x6, x7] M = _
  unfold e_t274_551
  simp [zq_a, zq_b, zq_c, zq_d, zq_e, zq_f, zq_g, zq_h, zq_i, zq_j, zq_k, zq_l, zq_m, zq_n, zq_o, zq_p, zq_q, zq_r, zq_s, zq_t, zq_u, zq_v, zq_w, zq_x, zq_y, zq_z, zq_A, zq_B, zq_C, zq_D, zq_E, zq_F, zq_G, zq_H, zq_I, zq_J, zq_K, zq_L, ↓zq_M, ↓zq_N, ↓zq_O, ↓zq_P, ↓zq_Q, ↓zq_R, zq_S, zq_T, zq_U, zq_V, zq_W, zq_X, zq_Y, zq_Z, zq_0, zq_1, zq_2, zq_3, zq_4, zq_5, ↓zq_6, ↓zq_7, ↓zq_8, ↓zq_9, ↓zq_aa, zq_ab, zq_ac, zq_ad, zq_ae, zq_af, zq_ag, ↓zq_ah, ↓zq_ai, ↓zq_aj, zq_ak, ↓zq_al, ↓zq_am, e_b1, e_b2, x_o1, x_o2, w1, l1, m1, w2, l2, m2, k1, k2]
/-- held -/
theorem l_c9 {n i x5 x6 x7 : Int} {M : EM} (hi : 0 ≤ i ∧ i + 6 ≤ n ∧ n ≤ 3072) (hJ : r_J M) (hRD : h_RD M) (hn : M 5 1 = n) (hv : e_bit (fun x y => x &&& y) (M 0 i.toNat) 63 = 9) : ∃ y5 y6 y7 M1, E_V 274 23 [0, 8, 192, 213, i, x5, x6, x7] M = E_V 274 1903 [0, 8, 192, 213, i, y5, y6, y7] M1 ∧ l_st M M1 ∧ h_RD M1 := by
  obtain ⟨⟨hR, hQ⟩, hZ⟩ := hRD
  have hd := l_head (x5 := x5) (x6 := x6) (x7 := x7) hi hn
  rw [hv] at hd
  have hd2 : E_V 274 23 [0, 8, 192, 213, i, x5, x6, x7] M = E_V 274 588 [0, 8, 192, 213, i, x5, x6, x7] M := hd
  have w1 : e_w (i + 1) = i + 1 := a_w_id (by omega) (by omega)
  have l1 := l_rd (n := n) (j := i + 1) hn (by omega) (by omega)
  have v1 := l_32 hJ (i + 1).toNat
  have w2 : e_w (i + 2) = i + 2 := a_w_id (by omega) (by omega)
  have l2 := l_rd (n := n) (j := i + 2) hn (by omega) (by omega)
  have v2 := l_32 hJ (i + 2).toNat
  have w3 : e_w (i + 3) = i + 3 := a_w_id (by omega) (by omega)
  have l3 := l_rd (n := n) (j := i + 3) hn (by omega) (by omega)
  have v3 := l_32 hJ (i + 3).toNat
  obtain ⟨r1, M1, k1, -, q3, q4⟩ := a_entry a_c113 (as := [8, M 0 (i + 1).toNat, M 0 (i + 2).toNat, M 0 (i + 3).toNat]) (M := M) ⟨List.mem_cons_self, a_gi v1.1 v1.2, a_gi v2.1 v2.2, a_gi v3.1 v3.2, trivial⟩ hJ.1
  have t1 := l_cl hJ q3 q4 (by decide +kernel)
  have s1 := l_s0_st t1
  have e1 := s1.2.1
  have J1 := s1.1
  have n1 : M1 5 1 = n := s1.2.2.1.trans hn
  have m1 : e_op 60 [0, i + 1] M1 = some (M 0 (i + 1).toNat) := (l_rd n1 (by omega) (by omega)).trans (congrArg some (e1 _))
  have m2 : e_op 60 [0, i + 2] M1 = some (M 0 (i + 2).toNat) := (l_rd n1 (by omega) (by omega)).trans (congrArg some (e1 _))
  have m3 : e_op 60 [0, i + 3] M1 = some (M 0 (i + 3).toNat) := (l_rd n1 (by omega) (by omega)).trans (congrArg some (e1 _))
  have hr : r_T [] 213 [192, M 0 (i + 1).toNat, M 0 (i + 2).toNat, M 0 (i + 3).toNat] M1 := r_Tq J1 (r_held J1)
  obtain ⟨r2, M2, k2, s2, f2⟩ := l_rfF hr (by decide +kernel)
  have RR : h_R M2 := ⟨p_keep (by decide +kernel) (by decide +kernel) f2 (p_keep (by decide +kernel) (by decide +kernel) q4 hR.1), h_keB (by decide +kernel) f2 (h_keB (by decide +kernel) q4 hR.2.1), h_keI (by decide +kernel) f2 (h_keI (by decide +kernel) q4 hR.2.2.1), h_keS (by decide +kernel) f2 (h_keS (by decide +kernel) q4 hR.2.2.2.1), h_keF (by decide +kernel) f2 (h_keF (by decide +kernel) q4 hR.2.2.2.2)⟩
  have RQ : h_Q M2 := ⟨h_ke1 (by decide +kernel) f2 (h_ke1 (by decide +kernel) q4 hQ.1), h_keC (by decide +kernel) f2 (h_keB (by decide +kernel) q4 hR.2.1) (h_keC (by decide +kernel) q4 hR.2.1 hQ.2.1), h_keCI (by decide +kernel) f2 (h_keI (by decide +kernel) q4 hR.2.2.1) (h_keCI (by decide +kernel) q4 hR.2.2.1 hQ.2.2.1), h_keK (by decide +kernel) f2 (h_keK (by decide +kernel) q4 hQ.2.2.2.1), h_keKI (by decide +kernel) f2 (h_keKI (by decide +kernel) q4 hQ.2.2.2.2)⟩
  have K1 : rx_K M1 := hd_KW (by decide +kernel) q4 hZ.2.2.1
  have RZ : h_Z M2 := ⟨hd_ke (by decide +kernel) f2 (h_keB (by decide +kernel) q4 hR.2.1) (hd_ke (by decide +kernel) q4 hR.2.1 hZ.1), hd_keI (by decide +kernel) f2 (h_keI (by decide +kernel) q4 hR.2.2.1) (hd_keI (by decide +kernel) q4 hR.2.2.1 hZ.2.1), rx_Kc (by decide) k2 K1, hd_0 (by decide +kernel) f2 (gz_c (by decide) (by decide) hJ k1 hZ.2.2.2)⟩
  refine ⟨x5, x6, x7, M2, hd2.trans ?_, l_st_s0 s1 s2, ⟨⟨RR, RQ⟩, RZ⟩⟩
  rw [E_V_eq]
  show e_tv E_C (E_V 274) e_t274_588 [0, 8, 192, 213, i, x5, x6, x7] M = _
  unfold e_t274_588
  simp [zq_a, zq_b, zq_c, zq_d, zq_e, zq_f, zq_g, zq_h, zq_i, zq_j, zq_k, zq_l, zq_m, zq_n, zq_o, zq_p, zq_q, zq_r, zq_s, zq_t, zq_u, zq_v, zq_w, zq_x, zq_y, zq_z, zq_A, zq_B, zq_C, zq_D, zq_E, zq_F, zq_G, zq_H, zq_I, zq_J, zq_K, zq_L, ↓zq_M, ↓zq_N, ↓zq_O, ↓zq_P, ↓zq_Q, ↓zq_R, zq_S, zq_T, zq_U, zq_V, zq_W, zq_X, zq_Y, zq_Z, zq_0, zq_1, zq_2, zq_3, zq_4, zq_5, ↓zq_6, ↓zq_7, ↓zq_8, ↓zq_9, ↓zq_aa, zq_ab, zq_ac, zq_ad, zq_ae, zq_af, zq_ag, ↓zq_ah, ↓zq_ai, ↓zq_aj, zq_ak, ↓zq_al, ↓zq_am, e_b1, e_b2, x_o1, x_o2, w1, l1, m1, w2, l2, m2, w3, l3, m3, k1, k2]
/-- box -/
theorem l_c10 {n i x5 x6 x7 : Int} {M : EM} (hi : 0 ≤ i ∧ i + 6 ≤ n ∧ n ≤ 3072) (hJ : r_J M) (hRD : h_RD M) (hn : M 5 1 = n) (hv : e_bit (fun x y => x &&& y) (M 0 i.toNat) 63 = 10) : ∃ y5 y6 y7 M1, E_V 274 23 [0, 8, 192, 213, i, x5, x6, x7] M = E_V 274 1903 [0, 8, 192, 213, i, y5, y6, y7] M1 ∧ l_st M M1 ∧ h_RD M1 := by
  obtain ⟨⟨hR, hQ⟩, hZ⟩ := hRD
  have hd := l_head (x5 := x5) (x6 := x6) (x7 := x7) hi hn
  rw [hv] at hd
  have hd2 : E_V 274 23 [0, 8, 192, 213, i, x5, x6, x7] M = E_V 274 637 [0, 8, 192, 213, i, x5, x6, x7] M := hd
  have w1 : e_w (i + 1) = i + 1 := a_w_id (by omega) (by omega)
  have l1 := l_rd (n := n) (j := i + 1) hn (by omega) (by omega)
  have v1 := l_32 hJ (i + 1).toNat
  have w2 : e_w (i + 2) = i + 2 := a_w_id (by omega) (by omega)
  have l2 := l_rd (n := n) (j := i + 2) hn (by omega) (by omega)
  have v2 := l_32 hJ (i + 2).toNat
  have w3 : e_w (i + 3) = i + 3 := a_w_id (by omega) (by omega)
  have l3 := l_rd (n := n) (j := i + 3) hn (by omega) (by omega)
  have v3 := l_32 hJ (i + 3).toNat
  obtain ⟨r1, M1, k1, -, q3, q4⟩ := a_entry a_c114 (as := [8, M 0 (i + 1).toNat, M 0 (i + 2).toNat, M 0 (i + 3).toNat]) (M := M) ⟨List.mem_cons_self, a_gi v1.1 v1.2, a_gi v2.1 v2.2, a_gi v3.1 v3.2, trivial⟩ hJ.1
  have t1 := l_cl hJ q3 q4 (by decide +kernel)
  have s1 := l_s0_st t1
  have e1 := s1.2.1
  have J1 := s1.1
  have n1 : M1 5 1 = n := s1.2.2.1.trans hn
  have m1 : e_op 60 [0, i + 1] M1 = some (M 0 (i + 1).toNat) := (l_rd n1 (by omega) (by omega)).trans (congrArg some (e1 _))
  have m2 : e_op 60 [0, i + 2] M1 = some (M 0 (i + 2).toNat) := (l_rd n1 (by omega) (by omega)).trans (congrArg some (e1 _))
  have m3 : e_op 60 [0, i + 3] M1 = some (M 0 (i + 3).toNat) := (l_rd n1 (by omega) (by omega)).trans (congrArg some (e1 _))
  have hr : r_T r_wBx 214 [192, M 0 (i + 1).toNat, M 0 (i + 2).toNat, M 0 (i + 3).toNat] M1 := r_box J1 v3
  obtain ⟨r2, M2, k2, s2, f2⟩ := l_rfF hr (by decide +kernel)
  have RR : h_R M2 := ⟨p_keep (by decide +kernel) (by decide +kernel) f2 (p_keep (by decide +kernel) (by decide +kernel) q4 hR.1), h_keB (by decide +kernel) f2 (h_keB (by decide +kernel) q4 hR.2.1), h_keI (by decide +kernel) f2 (h_keI (by decide +kernel) q4 hR.2.2.1), h_keS (by decide +kernel) f2 (h_keS (by decide +kernel) q4 hR.2.2.2.1), h_keF (by decide +kernel) f2 (h_keF (by decide +kernel) q4 hR.2.2.2.2)⟩
  have RQ : h_Q M2 := ⟨h_ke1 (by decide +kernel) f2 (h_ke1 (by decide +kernel) q4 hQ.1), h_keC (by decide +kernel) f2 (h_keB (by decide +kernel) q4 hR.2.1) (h_keC (by decide +kernel) q4 hR.2.1 hQ.2.1), h_keCI (by decide +kernel) f2 (h_keI (by decide +kernel) q4 hR.2.2.1) (h_keCI (by decide +kernel) q4 hR.2.2.1 hQ.2.2.1), h_keK (by decide +kernel) f2 (h_keK (by decide +kernel) q4 hQ.2.2.2.1), h_keKI (by decide +kernel) f2 (h_keKI (by decide +kernel) q4 hQ.2.2.2.2)⟩
  have K1 : rx_K M1 := hd_KW (by decide +kernel) q4 hZ.2.2.1
  have RZ : h_Z M2 := ⟨(ax_box hR.2.1 hZ.1 J1 (fun i => (h_cG q4 (by decide +kernel)) 193 i (by decide)) k1 k2).2, hd_keI (by decide +kernel) f2 (h_keI (by decide +kernel) q4 hR.2.2.1) (hd_keI (by decide +kernel) q4 hR.2.2.1 hZ.2.1), rx_Kc (by decide) k2 K1, hd_0 (by decide +kernel) f2 (hd_0 (by decide +kernel) q4 hZ.2.2.2)⟩
  refine ⟨x5, x6, x7, M2, hd2.trans ?_, l_st_s0 s1 s2, ⟨⟨RR, RQ⟩, RZ⟩⟩
  rw [E_V_eq]
  show e_tv E_C (E_V 274) e_t274_637 [0, 8, 192, 213, i, x5, x6, x7] M = _
  unfold e_t274_637
  simp [zq_a, zq_b, zq_c, zq_d, zq_e, zq_f, zq_g, zq_h, zq_i, zq_j, zq_k, zq_l, zq_m, zq_n, zq_o, zq_p, zq_q, zq_r, zq_s, zq_t, zq_u, zq_v, zq_w, zq_x, zq_y, zq_z, zq_A, zq_B, zq_C, zq_D, zq_E, zq_F, zq_G, zq_H, zq_I, zq_J, zq_K, zq_L, ↓zq_M, ↓zq_N, ↓zq_O, ↓zq_P, ↓zq_Q, ↓zq_R, zq_S, zq_T, zq_U, zq_V, zq_W, zq_X, zq_Y, zq_Z, zq_0, zq_1, zq_2, zq_3, zq_4, zq_5, ↓zq_6, ↓zq_7, ↓zq_8, ↓zq_9, ↓zq_aa, zq_ab, zq_ac, zq_ad, zq_ae, zq_af, zq_ag, ↓zq_ah, ↓zq_ai, ↓zq_aj, zq_ak, ↓zq_al, ↓zq_am, e_b1, e_b2, x_o1, x_o2, w1, l1, m1, w2, l2, m2, w3, l3, m3, k1, k2]
/-- seek -/
theorem l_c11 {n i x5 x6 x7 : Int} {M : EM} (hi : 0 ≤ i ∧ i + 6 ≤ n ∧ n ≤ 3072) (hJ : r_J M) (hRD : h_RD M) (hn : M 5 1 = n) (hv : e_bit (fun x y => x &&& y) (M 0 i.toNat) 63 = 11) : ∃ y5 y6 y7 M1, E_V 274 23 [0, 8, 192, 213, i, x5, x6, x7] M = E_V 274 1903 [0, 8, 192, 213, i, y5, y6, y7] M1 ∧ l_st M M1 ∧ h_RD M1 := by
  obtain ⟨⟨hR, hQ⟩, hZ⟩ := hRD
  have hd := l_head (x5 := x5) (x6 := x6) (x7 := x7) hi hn
  rw [hv] at hd
  have hd2 : E_V 274 23 [0, 8, 192, 213, i, x5, x6, x7] M = E_V 274 686 [0, 8, 192, 213, i, x5, x6, x7] M := hd
  have w1 : e_w (i + 1) = i + 1 := a_w_id (by omega) (by omega)
  have l1 := l_rd (n := n) (j := i + 1) hn (by omega) (by omega)
  have v1 := l_32 hJ (i + 1).toNat
  have w2 : e_w (i + 2) = i + 2 := a_w_id (by omega) (by omega)
  have l2 := l_rd (n := n) (j := i + 2) hn (by omega) (by omega)
  have v2 := l_32 hJ (i + 2).toNat
  obtain ⟨r1, M1, k1, -, q3, q4⟩ := a_entry a_c115 (as := [8, M 0 (i + 1).toNat, M 0 (i + 2).toNat]) (M := M) ⟨List.mem_cons_self, a_gi v1.1 v1.2, a_gi v2.1 v2.2, trivial⟩ hJ.1
  have t1 := l_cl hJ q3 q4 (by decide +kernel)
  have s1 := l_s0_st t1
  have e1 := s1.2.1
  have J1 := s1.1
  have n1 : M1 5 1 = n := s1.2.2.1.trans hn
  have m1 : e_op 60 [0, i + 1] M1 = some (M 0 (i + 1).toNat) := (l_rd n1 (by omega) (by omega)).trans (congrArg some (e1 _))
  have m2 : e_op 60 [0, i + 2] M1 = some (M 0 (i + 2).toNat) := (l_rd n1 (by omega) (by omega)).trans (congrArg some (e1 _))
  have hr : r_T r_wBx 216 [192, M 0 (i + 1).toNat, M 0 (i + 2).toNat] M1 := r_seek J1
  obtain ⟨r2, M2, k2, s2, f2⟩ := l_rfF hr (by decide +kernel)
  have RR : h_R M2 := ⟨p_keep (by decide +kernel) (by decide +kernel) f2 (p_keep (by decide +kernel) (by decide +kernel) q4 hR.1), h_keB (by decide +kernel) f2 (h_keB (by decide +kernel) q4 hR.2.1), h_keI (by decide +kernel) f2 (h_keI (by decide +kernel) q4 hR.2.2.1), h_keS (by decide +kernel) f2 (h_keS (by decide +kernel) q4 hR.2.2.2.1), h_keF (by decide +kernel) f2 (h_keF (by decide +kernel) q4 hR.2.2.2.2)⟩
  have RQ : h_Q M2 := ⟨h_ke1 (by decide +kernel) f2 (h_ke1 (by decide +kernel) q4 hQ.1), h_keC (by decide +kernel) f2 (h_keB (by decide +kernel) q4 hR.2.1) (h_keC (by decide +kernel) q4 hR.2.1 hQ.2.1), h_keCI (by decide +kernel) f2 (h_keI (by decide +kernel) q4 hR.2.2.1) (h_keCI (by decide +kernel) q4 hR.2.2.1 hQ.2.2.1), h_keK (by decide +kernel) f2 (h_keK (by decide +kernel) q4 hQ.2.2.2.1), h_keKI (by decide +kernel) f2 (h_keKI (by decide +kernel) q4 hQ.2.2.2.2)⟩
  have K1 : rx_K M1 := hd_KW (by decide +kernel) q4 hZ.2.2.1
  have RZ : h_Z M2 := ⟨(ax_seek (hd_Rall hR hQ hZ) J1 K1 (fun i => (h_cG q4 (by decide +kernel)) 193 i (by decide)) k1 k2).2.1, hd_keI (by decide +kernel) f2 (h_keI (by decide +kernel) q4 hR.2.2.1) (hd_keI (by decide +kernel) q4 hR.2.2.1 hZ.2.1), rx_Kc (by decide) k2 K1, hd_0 (by decide +kernel) f2 (gz_c (by decide) (by decide) hJ k1 hZ.2.2.2)⟩
  refine ⟨x5, x6, x7, M2, hd2.trans ?_, l_st_s0 s1 s2, ⟨⟨RR, RQ⟩, RZ⟩⟩
  rw [E_V_eq]
  show e_tv E_C (E_V 274) e_t274_686 [0, 8, 192, 213, i, x5, x6, x7] M = _
  unfold e_t274_686
  simp [zq_a, zq_b, zq_c, zq_d, zq_e, zq_f, zq_g, zq_h, zq_i, zq_j, zq_k, zq_l, zq_m, zq_n, zq_o, zq_p, zq_q, zq_r, zq_s, zq_t, zq_u, zq_v, zq_w, zq_x, zq_y, zq_z, zq_A, zq_B, zq_C, zq_D, zq_E, zq_F, zq_G, zq_H, zq_I, zq_J, zq_K, zq_L, ↓zq_M, ↓zq_N, ↓zq_O, ↓zq_P, ↓zq_Q, ↓zq_R, zq_S, zq_T, zq_U, zq_V, zq_W, zq_X, zq_Y, zq_Z, zq_0, zq_1, zq_2, zq_3, zq_4, zq_5, ↓zq_6, ↓zq_7, ↓zq_8, ↓zq_9, ↓zq_aa, zq_ab, zq_ac, zq_ad, zq_ae, zq_af, zq_ag, ↓zq_ah, ↓zq_ai, ↓zq_aj, zq_ak, ↓zq_al, ↓zq_am, e_b1, e_b2, x_o1, x_o2, w1, l1, m1, w2, l2, m2, k1, k2]
/-- led -/
theorem l_c12 {n i x5 x6 x7 : Int} {M : EM} (hi : 0 ≤ i ∧ i + 6 ≤ n ∧ n ≤ 3072) (hJ : r_J M) (hRD : h_RD M) (hn : M 5 1 = n) (hv : e_bit (fun x y => x &&& y) (M 0 i.toNat) 63 = 12) : ∃ y5 y6 y7 M1, E_V 274 23 [0, 8, 192, 213, i, x5, x6, x7] M = E_V 274 1903 [0, 8, 192, 213, i, y5, y6, y7] M1 ∧ l_st M M1 ∧ h_RD M1 := by
  obtain ⟨⟨hR, hQ⟩, hZ⟩ := hRD
  have hd := l_head (x5 := x5) (x6 := x6) (x7 := x7) hi hn
  rw [hv] at hd
  have hd2 : E_V 274 23 [0, 8, 192, 213, i, x5, x6, x7] M = E_V 274 723 [0, 8, 192, 213, i, x5, x6, x7] M := hd
  have w1 : e_w (i + 1) = i + 1 := a_w_id (by omega) (by omega)
  have l1 := l_rd (n := n) (j := i + 1) hn (by omega) (by omega)
  have v1 := l_32 hJ (i + 1).toNat
  have w2 : e_w (i + 2) = i + 2 := a_w_id (by omega) (by omega)
  have l2 := l_rd (n := n) (j := i + 2) hn (by omega) (by omega)
  have v2 := l_32 hJ (i + 2).toNat
  have w3 : e_w (i + 3) = i + 3 := a_w_id (by omega) (by omega)
  have l3 := l_rd (n := n) (j := i + 3) hn (by omega) (by omega)
  have v3 := l_32 hJ (i + 3).toNat
  obtain ⟨r1, M1, k1, -, q3, q4⟩ := a_entry a_c116 (as := [8, M 0 (i + 1).toNat, M 0 (i + 2).toNat, M 0 (i + 3).toNat]) (M := M) ⟨List.mem_cons_self, a_gi v1.1 v1.2, a_gi v2.1 v2.2, a_gi v3.1 v3.2, trivial⟩ hJ.1
  have t1 := l_cl hJ q3 q4 (by decide +kernel)
  have s1 := l_s0_st t1
  have e1 := s1.2.1
  have J1 := s1.1
  have n1 : M1 5 1 = n := s1.2.2.1.trans hn
  have m1 : e_op 60 [0, i + 1] M1 = some (M 0 (i + 1).toNat) := (l_rd n1 (by omega) (by omega)).trans (congrArg some (e1 _))
  have m2 : e_op 60 [0, i + 2] M1 = some (M 0 (i + 2).toNat) := (l_rd n1 (by omega) (by omega)).trans (congrArg some (e1 _))
  have m3 : e_op 60 [0, i + 3] M1 = some (M 0 (i + 3).toNat) := (l_rd n1 (by omega) (by omega)).trans (congrArg some (e1 _))
  have hr : r_T [] 217 [192, M 0 (i + 1).toNat, M 0 (i + 2).toNat, M 0 (i + 3).toNat] M1 := r_Tq J1 (r_led J1)
  obtain ⟨r2, M2, k2, s2, f2⟩ := l_rfF hr (by decide +kernel)
  have RR : h_R M2 := ⟨p_keep (by decide +kernel) (by decide +kernel) f2 (p_keep (by decide +kernel) (by decide +kernel) q4 hR.1), h_keB (by decide +kernel) f2 (h_keB (by decide +kernel) q4 hR.2.1), h_keI (by decide +kernel) f2 (h_keI (by decide +kernel) q4 hR.2.2.1), h_keS (by decide +kernel) f2 (h_keS (by decide +kernel) q4 hR.2.2.2.1), h_keF (by decide +kernel) f2 (h_keF (by decide +kernel) q4 hR.2.2.2.2)⟩
  have RQ : h_Q M2 := ⟨h_ke1 (by decide +kernel) f2 (h_ke1 (by decide +kernel) q4 hQ.1), h_keC (by decide +kernel) f2 (h_keB (by decide +kernel) q4 hR.2.1) (h_keC (by decide +kernel) q4 hR.2.1 hQ.2.1), h_keCI (by decide +kernel) f2 (h_keI (by decide +kernel) q4 hR.2.2.1) (h_keCI (by decide +kernel) q4 hR.2.2.1 hQ.2.2.1), h_keK (by decide +kernel) f2 (h_keK (by decide +kernel) q4 hQ.2.2.2.1), h_keKI (by decide +kernel) f2 (h_keKI (by decide +kernel) q4 hQ.2.2.2.2)⟩
  have K1 : rx_K M1 := hd_KW (by decide +kernel) q4 hZ.2.2.1
  have RZ : h_Z M2 := ⟨hd_ke (by decide +kernel) f2 (h_keB (by decide +kernel) q4 hR.2.1) (hd_ke (by decide +kernel) q4 hR.2.1 hZ.1), hd_keI (by decide +kernel) f2 (h_keI (by decide +kernel) q4 hR.2.2.1) (hd_keI (by decide +kernel) q4 hR.2.2.1 hZ.2.1), rx_Kc (by decide) k2 K1, hd_0 (by decide +kernel) f2 (gz_c (by decide) (by decide) hJ k1 hZ.2.2.2)⟩
  refine ⟨x5, x6, x7, M2, hd2.trans ?_, l_st_s0 s1 s2, ⟨⟨RR, RQ⟩, RZ⟩⟩
  rw [E_V_eq]
  show e_tv E_C (E_V 274) e_t274_723 [0, 8, 192, 213, i, x5, x6, x7] M = _
  unfold e_t274_723
  simp [zq_a, zq_b, zq_c, zq_d, zq_e, zq_f, zq_g, zq_h, zq_i, zq_j, zq_k, zq_l, zq_m, zq_n, zq_o, zq_p, zq_q, zq_r, zq_s, zq_t, zq_u, zq_v, zq_w, zq_x, zq_y, zq_z, zq_A, zq_B, zq_C, zq_D, zq_E, zq_F, zq_G, zq_H, zq_I, zq_J, zq_K, zq_L, ↓zq_M, ↓zq_N, ↓zq_O, ↓zq_P, ↓zq_Q, ↓zq_R, zq_S, zq_T, zq_U, zq_V, zq_W, zq_X, zq_Y, zq_Z, zq_0, zq_1, zq_2, zq_3, zq_4, zq_5, ↓zq_6, ↓zq_7, ↓zq_8, ↓zq_9, ↓zq_aa, zq_ab, zq_ac, zq_ad, zq_ae, zq_af, zq_ag, ↓zq_ah, ↓zq_ai, ↓zq_aj, zq_ak, ↓zq_al, ↓zq_am, e_b1, e_b2, x_o1, x_o2, w1, l1, m1, w2, l2, m2, w3, l3, m3, k1, k2]
/-- lies -/
theorem l_c13 {n i x5 x6 x7 : Int} {M : EM} (hi : 0 ≤ i ∧ i + 6 ≤ n ∧ n ≤ 3072) (hJ : r_J M) (hRD : h_RD M) (hn : M 5 1 = n) (hv : e_bit (fun x y => x &&& y) (M 0 i.toNat) 63 = 13) : ∃ y5 y6 y7 M1, E_V 274 23 [0, 8, 192, 213, i, x5, x6, x7] M = E_V 274 1903 [0, 8, 192, 213, i, y5, y6, y7] M1 ∧ l_st M M1 ∧ h_RD M1 := by
  obtain ⟨⟨hR, hQ⟩, hZ⟩ := hRD
  have hd := l_head (x5 := x5) (x6 := x6) (x7 := x7) hi hn
  rw [hv] at hd
  have hd2 : E_V 274 23 [0, 8, 192, 213, i, x5, x6, x7] M = E_V 274 772 [0, 8, 192, 213, i, x5, x6, x7] M := hd
  have w1 : e_w (i + 1) = i + 1 := a_w_id (by omega) (by omega)
  have l1 := l_rd (n := n) (j := i + 1) hn (by omega) (by omega)
  have v1 := l_32 hJ (i + 1).toNat
  have w2 : e_w (i + 2) = i + 2 := a_w_id (by omega) (by omega)
  have l2 := l_rd (n := n) (j := i + 2) hn (by omega) (by omega)
  have v2 := l_32 hJ (i + 2).toNat
  have w3 : e_w (i + 3) = i + 3 := a_w_id (by omega) (by omega)
  have l3 := l_rd (n := n) (j := i + 3) hn (by omega) (by omega)
  have v3 := l_32 hJ (i + 3).toNat
  obtain ⟨r1, M1, k1, -, q3, q4⟩ := a_entry a_c117 (as := [8, M 0 (i + 1).toNat, M 0 (i + 2).toNat, M 0 (i + 3).toNat]) (M := M) ⟨List.mem_cons_self, a_gi v1.1 v1.2, a_gi v2.1 v2.2, a_gi v3.1 v3.2, trivial⟩ hJ.1
  have t1 := l_cl hJ q3 q4 (by decide +kernel)
  have s1 := l_s0_st t1
  have e1 := s1.2.1
  have J1 := s1.1
  have n1 : M1 5 1 = n := s1.2.2.1.trans hn
  have m1 : e_op 60 [0, i + 1] M1 = some (M 0 (i + 1).toNat) := (l_rd n1 (by omega) (by omega)).trans (congrArg some (e1 _))
  have m2 : e_op 60 [0, i + 2] M1 = some (M 0 (i + 2).toNat) := (l_rd n1 (by omega) (by omega)).trans (congrArg some (e1 _))
  have m3 : e_op 60 [0, i + 3] M1 = some (M 0 (i + 3).toNat) := (l_rd n1 (by omega) (by omega)).trans (congrArg some (e1 _))
  have hr : r_T r_wL 219 [192, M 0 (i + 1).toNat, M 0 (i + 2).toNat, M 0 (i + 3).toNat] M1 := r_liesOf J1 v2 v3
  obtain ⟨r2, M2, k2, s2, f2⟩ := l_rfF hr (by decide +kernel)
  have RR : h_R M2 := ⟨p_keep (by decide +kernel) (by decide +kernel) f2 (p_keep (by decide +kernel) (by decide +kernel) q4 hR.1), h_keB (by decide +kernel) f2 (h_keB (by decide +kernel) q4 hR.2.1), h_keI (by decide +kernel) f2 (h_keI (by decide +kernel) q4 hR.2.2.1), h_keS (by decide +kernel) f2 (h_keS (by decide +kernel) q4 hR.2.2.2.1), h_keF (by decide +kernel) f2 (h_keF (by decide +kernel) q4 hR.2.2.2.2)⟩
  have hU := h_liess J1 hR.2.1 hQ.2.1 v2.2 v3.2 (fun i => (h_cG q4 (by decide +kernel)) 193 i (by decide)) k1 k2
  have RQ : h_Q M2 := ⟨h_ke1 (by decide +kernel) f2 (h_ke1 (by decide +kernel) q4 hQ.1), hU.2, h_keCI (by decide +kernel) f2 (h_keI (by decide +kernel) q4 hR.2.2.1) (h_keCI (by decide +kernel) q4 hR.2.2.1 hQ.2.2.1), h_keK (by decide +kernel) f2 (h_keK (by decide +kernel) q4 hQ.2.2.2.1), h_keKI (by decide +kernel) f2 (h_keKI (by decide +kernel) q4 hQ.2.2.2.2)⟩
  have K1 : rx_K M1 := hd_KW (by decide +kernel) q4 hZ.2.2.1
  have RZ : h_Z M2 := ⟨hd_liesD J1 (hd_ke (by decide +kernel) q4 hR.2.1 hZ.1) v2.2 v3.2 k2, hd_keI (by decide +kernel) f2 (h_keI (by decide +kernel) q4 hR.2.2.1) (hd_keI (by decide +kernel) q4 hR.2.2.1 hZ.2.1), rx_Kc (by decide) k2 K1, hd_0 (by decide +kernel) f2 (hd_0 (by decide +kernel) q4 hZ.2.2.2)⟩
  refine ⟨x5, x6, x7, M2, hd2.trans ?_, l_st_s0 s1 s2, ⟨⟨RR, RQ⟩, RZ⟩⟩
  rw [E_V_eq]
  show e_tv E_C (E_V 274) e_t274_772 [0, 8, 192, 213, i, x5, x6, x7] M = _
  unfold e_t274_772
  simp [zq_a, zq_b, zq_c, zq_d, zq_e, zq_f, zq_g, zq_h, zq_i, zq_j, zq_k, zq_l, zq_m, zq_n, zq_o, zq_p, zq_q, zq_r, zq_s, zq_t, zq_u, zq_v, zq_w, zq_x, zq_y, zq_z, zq_A, zq_B, zq_C, zq_D, zq_E, zq_F, zq_G, zq_H, zq_I, zq_J, zq_K, zq_L, ↓zq_M, ↓zq_N, ↓zq_O, ↓zq_P, ↓zq_Q, ↓zq_R, zq_S, zq_T, zq_U, zq_V, zq_W, zq_X, zq_Y, zq_Z, zq_0, zq_1, zq_2, zq_3, zq_4, zq_5, ↓zq_6, ↓zq_7, ↓zq_8, ↓zq_9, ↓zq_aa, zq_ab, zq_ac, zq_ad, zq_ae, zq_af, zq_ag, ↓zq_ah, ↓zq_ai, ↓zq_aj, zq_ak, ↓zq_al, ↓zq_am, e_b1, e_b2, x_o1, x_o2, w1, l1, m1, w2, l2, m2, w3, l3, m3, k1, k2]
/-- wall -/
theorem l_c14 {n i x5 x6 x7 : Int} {M : EM} (hi : 0 ≤ i ∧ i + 6 ≤ n ∧ n ≤ 3072) (hJ : r_J M) (hRD : h_RD M) (hn : M 5 1 = n) (hv : e_bit (fun x y => x &&& y) (M 0 i.toNat) 63 = 14) : ∃ y5 y6 y7 M1, E_V 274 23 [0, 8, 192, 213, i, x5, x6, x7] M = E_V 274 1903 [0, 8, 192, 213, i, y5, y6, y7] M1 ∧ l_st M M1 ∧ h_RD M1 := by
  obtain ⟨⟨hR, hQ⟩, hZ⟩ := hRD
  have hd := l_head (x5 := x5) (x6 := x6) (x7 := x7) hi hn
  rw [hv] at hd
  have hd2 : E_V 274 23 [0, 8, 192, 213, i, x5, x6, x7] M = E_V 274 821 [0, 8, 192, 213, i, x5, x6, x7] M := hd
  have w1 : e_w (i + 1) = i + 1 := a_w_id (by omega) (by omega)
  have l1 := l_rd (n := n) (j := i + 1) hn (by omega) (by omega)
  have v1 := l_32 hJ (i + 1).toNat
  have w2 : e_w (i + 2) = i + 2 := a_w_id (by omega) (by omega)
  have l2 := l_rd (n := n) (j := i + 2) hn (by omega) (by omega)
  have v2 := l_32 hJ (i + 2).toNat
  have w3 : e_w (i + 3) = i + 3 := a_w_id (by omega) (by omega)
  have l3 := l_rd (n := n) (j := i + 3) hn (by omega) (by omega)
  have v3 := l_32 hJ (i + 3).toNat
  have w4 : e_w (i + 4) = i + 4 := a_w_id (by omega) (by omega)
  have l4 := l_rd (n := n) (j := i + 4) hn (by omega) (by omega)
  have v4 := l_32 hJ (i + 4).toNat
  obtain ⟨r1, M1, k1, -, q3, q4⟩ := a_entry a_c118 (as := [8, M 0 (i + 1).toNat, M 0 (i + 2).toNat, M 0 (i + 3).toNat, M 0 (i + 4).toNat]) (M := M) ⟨List.mem_cons_self, a_gi v1.1 v1.2, a_gi v2.1 v2.2, a_gi v3.1 v3.2, a_gi v4.1 v4.2, trivial⟩ hJ.1
  have t1 := l_cl hJ q3 q4 (by decide +kernel)
  have s1 := l_s0_st t1
  have e1 := s1.2.1
  have J1 := s1.1
  have n1 : M1 5 1 = n := s1.2.2.1.trans hn
  have m1 : e_op 60 [0, i + 1] M1 = some (M 0 (i + 1).toNat) := (l_rd n1 (by omega) (by omega)).trans (congrArg some (e1 _))
  have m2 : e_op 60 [0, i + 2] M1 = some (M 0 (i + 2).toNat) := (l_rd n1 (by omega) (by omega)).trans (congrArg some (e1 _))
  have m3 : e_op 60 [0, i + 3] M1 = some (M 0 (i + 3).toNat) := (l_rd n1 (by omega) (by omega)).trans (congrArg some (e1 _))
  have m4 : e_op 60 [0, i + 4] M1 = some (M 0 (i + 4).toNat) := (l_rd n1 (by omega) (by omega)).trans (congrArg some (e1 _))
  have hr : r_T r_wW 220 [192, M 0 (i + 1).toNat, M 0 (i + 2).toNat, M 0 (i + 3).toNat, M 0 (i + 4).toNat] M1 := r_wall J1
  obtain ⟨r2, M2, k2, s2, f2⟩ := l_rfF hr (by decide +kernel)
  obtain ⟨r, N1, N2, kk1, kk2, RR0⟩ := p_wall_R hR.1
  have p1 := Prod.mk.inj (Option.some.inj (k1.symm.trans kk1))
  obtain ⟨u1, u2⟩ := p1
  subst u2
  have p2 := Prod.mk.inj (Option.some.inj (k2.symm.trans kk2))
  obtain ⟨u3, u4⟩ := p2
  subst u4
  have RR : h_R M2 := ⟨RR0, h_keB (by decide +kernel) f2 (h_keB (by decide +kernel) q4 hR.2.1), h_keI (by decide +kernel) f2 (h_keI (by decide +kernel) q4 hR.2.2.1), h_keS (by decide +kernel) f2 (h_keS (by decide +kernel) q4 hR.2.2.2.1), h_keF (by decide +kernel) f2 (h_keF (by decide +kernel) q4 hR.2.2.2.2)⟩
  have RQ : h_Q M2 := ⟨h_ke1 (by decide +kernel) f2 (h_ke1 (by decide +kernel) q4 hQ.1), h_keC (by decide +kernel) f2 (h_keB (by decide +kernel) q4 hR.2.1) (h_keC (by decide +kernel) q4 hR.2.1 hQ.2.1), h_keCI (by decide +kernel) f2 (h_keI (by decide +kernel) q4 hR.2.2.1) (h_keCI (by decide +kernel) q4 hR.2.2.1 hQ.2.2.1), h_keK (by decide +kernel) f2 (h_keK (by decide +kernel) q4 hQ.2.2.2.1), h_keKI (by decide +kernel) f2 (h_keKI (by decide +kernel) q4 hQ.2.2.2.2)⟩
  have K1 : rx_K M1 := hd_KW (by decide +kernel) q4 hZ.2.2.1
  have RZ : h_Z M2 := ⟨hd_ke (by decide +kernel) f2 (h_keB (by decide +kernel) q4 hR.2.1) (hd_ke (by decide +kernel) q4 hR.2.1 hZ.1), hd_keI (by decide +kernel) f2 (h_keI (by decide +kernel) q4 hR.2.2.1) (hd_keI (by decide +kernel) q4 hR.2.2.1 hZ.2.1), rx_Kc (by decide) k2 K1, hd_0 (by decide +kernel) f2 (hd_0 (by decide +kernel) q4 hZ.2.2.2)⟩
  refine ⟨x5, x6, x7, M2, hd2.trans ?_, l_st_s0 s1 s2, ⟨⟨RR, RQ⟩, RZ⟩⟩
  rw [E_V_eq]
  show e_tv E_C (E_V 274) e_t274_821 [0, 8, 192, 213, i, x5, x6, x7] M = _
  unfold e_t274_821
  simp [zq_a, zq_b, zq_c, zq_d, zq_e, zq_f, zq_g, zq_h, zq_i, zq_j, zq_k, zq_l, zq_m, zq_n, zq_o, zq_p, zq_q, zq_r, zq_s, zq_t, zq_u, zq_v, zq_w, zq_x, zq_y, zq_z, zq_A, zq_B, zq_C, zq_D, zq_E, zq_F, zq_G, zq_H, zq_I, zq_J, zq_K, zq_L, ↓zq_M, ↓zq_N, ↓zq_O, ↓zq_P, ↓zq_Q, ↓zq_R, zq_S, zq_T, zq_U, zq_V, zq_W, zq_X, zq_Y, zq_Z, zq_0, zq_1, zq_2, zq_3, zq_4, zq_5, ↓zq_6, ↓zq_7, ↓zq_8, ↓zq_9, ↓zq_aa, zq_ab, zq_ac, zq_ad, zq_ae, zq_af, zq_ag, ↓zq_ah, ↓zq_ai, ↓zq_aj, zq_ak, ↓zq_al, ↓zq_am, e_b1, e_b2, x_o1, x_o2, w1, l1, m1, w2, l2, m2, w3, l3, m3, w4, l4, m4, k1, k2]
/-- sun -/
theorem l_c15 {n i x5 x6 x7 : Int} {M : EM} (hi : 0 ≤ i ∧ i + 6 ≤ n ∧ n ≤ 3072) (hJ : r_J M) (hRD : h_RD M) (hn : M 5 1 = n) (hv : e_bit (fun x y => x &&& y) (M 0 i.toNat) 63 = 15) : ∃ y5 y6 y7 M1, E_V 274 23 [0, 8, 192, 213, i, x5, x6, x7] M = E_V 274 1903 [0, 8, 192, 213, i, y5, y6, y7] M1 ∧ l_st M M1 ∧ h_RD M1 := by
  obtain ⟨⟨hR, hQ⟩, hZ⟩ := hRD
  have hd := l_head (x5 := x5) (x6 := x6) (x7 := x7) hi hn
  rw [hv] at hd
  have hd2 : E_V 274 23 [0, 8, 192, 213, i, x5, x6, x7] M = E_V 274 882 [0, 8, 192, 213, i, x5, x6, x7] M := hd
  have w1 : e_w (i + 1) = i + 1 := a_w_id (by omega) (by omega)
  have l1 := l_rd (n := n) (j := i + 1) hn (by omega) (by omega)
  have v1 := l_32 hJ (i + 1).toNat
  have w2 : e_w (i + 2) = i + 2 := a_w_id (by omega) (by omega)
  have l2 := l_rd (n := n) (j := i + 2) hn (by omega) (by omega)
  have v2 := l_32 hJ (i + 2).toNat
  have w3 : e_w (i + 3) = i + 3 := a_w_id (by omega) (by omega)
  have l3 := l_rd (n := n) (j := i + 3) hn (by omega) (by omega)
  have v3 := l_32 hJ (i + 3).toNat
  obtain ⟨r1, M1, k1, -, q3, q4⟩ := a_entry a_c119 (as := [8, M 0 (i + 1).toNat, M 0 (i + 2).toNat, M 0 (i + 3).toNat]) (M := M) ⟨List.mem_cons_self, a_gi v1.1 v1.2, a_gi v2.1 v2.2, a_gi v3.1 v3.2, trivial⟩ hJ.1
  have t1 := l_cl hJ q3 q4 (by decide +kernel)
  have s1 := l_s0_st t1
  have e1 := s1.2.1
  have J1 := s1.1
  have n1 : M1 5 1 = n := s1.2.2.1.trans hn
  have m1 : e_op 60 [0, i + 1] M1 = some (M 0 (i + 1).toNat) := (l_rd n1 (by omega) (by omega)).trans (congrArg some (e1 _))
  have m2 : e_op 60 [0, i + 2] M1 = some (M 0 (i + 2).toNat) := (l_rd n1 (by omega) (by omega)).trans (congrArg some (e1 _))
  have m3 : e_op 60 [0, i + 3] M1 = some (M 0 (i + 3).toNat) := (l_rd n1 (by omega) (by omega)).trans (congrArg some (e1 _))
  have hr : r_T r_wS 221 [192, M 0 (i + 1).toNat, M 0 (i + 2).toNat, M 0 (i + 3).toNat] M1 := r_sun J1
  obtain ⟨r2, M2, k2, s2, f2⟩ := l_rfF hr (by decide +kernel)
  obtain ⟨r, N1, N2, kk1, kk2, RR0⟩ := p_sun_R hR.1
  have p1 := Prod.mk.inj (Option.some.inj (k1.symm.trans kk1))
  obtain ⟨u1, u2⟩ := p1
  subst u2
  have p2 := Prod.mk.inj (Option.some.inj (k2.symm.trans kk2))
  obtain ⟨u3, u4⟩ := p2
  subst u4
  have RR : h_R M2 := ⟨RR0, h_keB (by decide +kernel) f2 (h_keB (by decide +kernel) q4 hR.2.1), h_keI (by decide +kernel) f2 (h_keI (by decide +kernel) q4 hR.2.2.1), h_keS (by decide +kernel) f2 (h_keS (by decide +kernel) q4 hR.2.2.2.1), h_keF (by decide +kernel) f2 (h_keF (by decide +kernel) q4 hR.2.2.2.2)⟩
  have RQ : h_Q M2 := ⟨h_ke1 (by decide +kernel) f2 (h_ke1 (by decide +kernel) q4 hQ.1), h_keC (by decide +kernel) f2 (h_keB (by decide +kernel) q4 hR.2.1) (h_keC (by decide +kernel) q4 hR.2.1 hQ.2.1), h_keCI (by decide +kernel) f2 (h_keI (by decide +kernel) q4 hR.2.2.1) (h_keCI (by decide +kernel) q4 hR.2.2.1 hQ.2.2.1), h_keK (by decide +kernel) f2 (h_keK (by decide +kernel) q4 hQ.2.2.2.1), h_keKI (by decide +kernel) f2 (h_keKI (by decide +kernel) q4 hQ.2.2.2.2)⟩
  have K1 : rx_K M1 := hd_KW (by decide +kernel) q4 hZ.2.2.1
  have RZ : h_Z M2 := ⟨hd_ke (by decide +kernel) f2 (h_keB (by decide +kernel) q4 hR.2.1) (hd_ke (by decide +kernel) q4 hR.2.1 hZ.1), hd_keI (by decide +kernel) f2 (h_keI (by decide +kernel) q4 hR.2.2.1) (hd_keI (by decide +kernel) q4 hR.2.2.1 hZ.2.1), rx_Kc (by decide) k2 K1, hd_0 (by decide +kernel) f2 (hd_0 (by decide +kernel) q4 hZ.2.2.2)⟩
  refine ⟨x5, x6, x7, M2, hd2.trans ?_, l_st_s0 s1 s2, ⟨⟨RR, RQ⟩, RZ⟩⟩
  rw [E_V_eq]
  show e_tv E_C (E_V 274) e_t274_882 [0, 8, 192, 213, i, x5, x6, x7] M = _
  unfold e_t274_882
  simp [zq_a, zq_b, zq_c, zq_d, zq_e, zq_f, zq_g, zq_h, zq_i, zq_j, zq_k, zq_l, zq_m, zq_n, zq_o, zq_p, zq_q, zq_r, zq_s, zq_t, zq_u, zq_v, zq_w, zq_x, zq_y, zq_z, zq_A, zq_B, zq_C, zq_D, zq_E, zq_F, zq_G, zq_H, zq_I, zq_J, zq_K, zq_L, ↓zq_M, ↓zq_N, ↓zq_O, ↓zq_P, ↓zq_Q, ↓zq_R, zq_S, zq_T, zq_U, zq_V, zq_W, zq_X, zq_Y, zq_Z, zq_0, zq_1, zq_2, zq_3, zq_4, zq_5, ↓zq_6, ↓zq_7, ↓zq_8, ↓zq_9, ↓zq_aa, zq_ab, zq_ac, zq_ad, zq_ae, zq_af, zq_ag, ↓zq_ah, ↓zq_ai, ↓zq_aj, zq_ak, ↓zq_al, ↓zq_am, e_b1, e_b2, x_o1, x_o2, w1, l1, m1, w2, l2, m2, w3, l3, m3, k1, k2]
/-- lit -/
theorem l_c16 {n i x5 x6 x7 : Int} {M : EM} (hi : 0 ≤ i ∧ i + 6 ≤ n ∧ n ≤ 3072) (hJ : r_J M) (hRD : h_RD M) (hn : M 5 1 = n) (hv : e_bit (fun x y => x &&& y) (M 0 i.toNat) 63 = 16) : ∃ y5 y6 y7 M1, E_V 274 23 [0, 8, 192, 213, i, x5, x6, x7] M = E_V 274 1903 [0, 8, 192, 213, i, y5, y6, y7] M1 ∧ l_st M M1 ∧ h_RD M1 := by
  obtain ⟨⟨hR, hQ⟩, hZ⟩ := hRD
  have hd := l_head (x5 := x5) (x6 := x6) (x7 := x7) hi hn
  rw [hv] at hd
  have hd2 : E_V 274 23 [0, 8, 192, 213, i, x5, x6, x7] M = E_V 274 931 [0, 8, 192, 213, i, x5, x6, x7] M := hd
  have w1 : e_w (i + 1) = i + 1 := a_w_id (by omega) (by omega)
  have l1 := l_rd (n := n) (j := i + 1) hn (by omega) (by omega)
  have v1 := l_32 hJ (i + 1).toNat
  have w2 : e_w (i + 2) = i + 2 := a_w_id (by omega) (by omega)
  have l2 := l_rd (n := n) (j := i + 2) hn (by omega) (by omega)
  have v2 := l_32 hJ (i + 2).toNat
  obtain ⟨r1, M1, k1, -, q3, q4⟩ := a_entry a_c120 (as := [8, M 0 (i + 1).toNat, M 0 (i + 2).toNat]) (M := M) ⟨List.mem_cons_self, a_gi v1.1 v1.2, a_gi v2.1 v2.2, trivial⟩ hJ.1
  have t1 := l_cl hJ q3 q4 (by decide +kernel)
  have s1 := l_s0_st t1
  have e1 := s1.2.1
  have J1 := s1.1
  have n1 : M1 5 1 = n := s1.2.2.1.trans hn
  have m1 : e_op 60 [0, i + 1] M1 = some (M 0 (i + 1).toNat) := (l_rd n1 (by omega) (by omega)).trans (congrArg some (e1 _))
  have m2 : e_op 60 [0, i + 2] M1 = some (M 0 (i + 2).toNat) := (l_rd n1 (by omega) (by omega)).trans (congrArg some (e1 _))
  have hr : r_T [] 224 [192, M 0 (i + 1).toNat, M 0 (i + 2).toNat] M1 := r_Tq J1 (r_lit J1)
  obtain ⟨r2, M2, k2, s2, f2⟩ := l_rfF hr (by decide +kernel)
  have RR : h_R M2 := ⟨p_keep (by decide +kernel) (by decide +kernel) f2 (p_keep (by decide +kernel) (by decide +kernel) q4 hR.1), h_keB (by decide +kernel) f2 (h_keB (by decide +kernel) q4 hR.2.1), h_keI (by decide +kernel) f2 (h_keI (by decide +kernel) q4 hR.2.2.1), h_keS (by decide +kernel) f2 (h_keS (by decide +kernel) q4 hR.2.2.2.1), h_keF (by decide +kernel) f2 (h_keF (by decide +kernel) q4 hR.2.2.2.2)⟩
  have RQ : h_Q M2 := ⟨h_ke1 (by decide +kernel) f2 (h_ke1 (by decide +kernel) q4 hQ.1), h_keC (by decide +kernel) f2 (h_keB (by decide +kernel) q4 hR.2.1) (h_keC (by decide +kernel) q4 hR.2.1 hQ.2.1), h_keCI (by decide +kernel) f2 (h_keI (by decide +kernel) q4 hR.2.2.1) (h_keCI (by decide +kernel) q4 hR.2.2.1 hQ.2.2.1), h_keK (by decide +kernel) f2 (h_keK (by decide +kernel) q4 hQ.2.2.2.1), h_keKI (by decide +kernel) f2 (h_keKI (by decide +kernel) q4 hQ.2.2.2.2)⟩
  have K1 : rx_K M1 := hd_KW (by decide +kernel) q4 hZ.2.2.1
  have RZ : h_Z M2 := ⟨hd_ke (by decide +kernel) f2 (h_keB (by decide +kernel) q4 hR.2.1) (hd_ke (by decide +kernel) q4 hR.2.1 hZ.1), hd_keI (by decide +kernel) f2 (h_keI (by decide +kernel) q4 hR.2.2.1) (hd_keI (by decide +kernel) q4 hR.2.2.1 hZ.2.1), rx_Kc (by decide) k2 K1, hd_0 (by decide +kernel) f2 (hd_0 (by decide +kernel) q4 hZ.2.2.2)⟩
  refine ⟨x5, x6, x7, M2, hd2.trans ?_, l_st_s0 s1 s2, ⟨⟨RR, RQ⟩, RZ⟩⟩
  rw [E_V_eq]
  show e_tv E_C (E_V 274) e_t274_931 [0, 8, 192, 213, i, x5, x6, x7] M = _
  unfold e_t274_931
  simp [zq_a, zq_b, zq_c, zq_d, zq_e, zq_f, zq_g, zq_h, zq_i, zq_j, zq_k, zq_l, zq_m, zq_n, zq_o, zq_p, zq_q, zq_r, zq_s, zq_t, zq_u, zq_v, zq_w, zq_x, zq_y, zq_z, zq_A, zq_B, zq_C, zq_D, zq_E, zq_F, zq_G, zq_H, zq_I, zq_J, zq_K, zq_L, ↓zq_M, ↓zq_N, ↓zq_O, ↓zq_P, ↓zq_Q, ↓zq_R, zq_S, zq_T, zq_U, zq_V, zq_W, zq_X, zq_Y, zq_Z, zq_0, zq_1, zq_2, zq_3, zq_4, zq_5, ↓zq_6, ↓zq_7, ↓zq_8, ↓zq_9, ↓zq_aa, zq_ab, zq_ac, zq_ad, zq_ae, zq_af, zq_ag, ↓zq_ah, ↓zq_ai, ↓zq_aj, zq_ak, ↓zq_al, ↓zq_am, e_b1, e_b2, x_o1, x_o2, w1, l1, m1, w2, l2, m2, k1, k2]
/-- sky -/
theorem l_c17 {n i x5 x6 x7 : Int} {M : EM} (hi : 0 ≤ i ∧ i + 6 ≤ n ∧ n ≤ 3072) (hJ : r_J M) (hRD : h_RD M) (hn : M 5 1 = n) (hv : e_bit (fun x y => x &&& y) (M 0 i.toNat) 63 = 17) : ∃ y5 y6 y7 M1, E_V 274 23 [0, 8, 192, 213, i, x5, x6, x7] M = E_V 274 1903 [0, 8, 192, 213, i, y5, y6, y7] M1 ∧ l_st M M1 ∧ h_RD M1 := by
  obtain ⟨⟨hR, hQ⟩, hZ⟩ := hRD
  have hd := l_head (x5 := x5) (x6 := x6) (x7 := x7) hi hn
  rw [hv] at hd
  have hd2 : E_V 274 23 [0, 8, 192, 213, i, x5, x6, x7] M = E_V 274 968 [0, 8, 192, 213, i, x5, x6, x7] M := hd
  have w1 : e_w (i + 1) = i + 1 := a_w_id (by omega) (by omega)
  have l1 := l_rd (n := n) (j := i + 1) hn (by omega) (by omega)
  have v1 := l_32 hJ (i + 1).toNat
  obtain ⟨r1, M1, k1, -, q3, q4⟩ := a_entry a_c121 (as := [8, M 0 (i + 1).toNat]) (M := M) ⟨List.mem_cons_self, a_gi v1.1 v1.2, trivial⟩ hJ.1
  have t1 := l_cl hJ q3 q4 (by decide +kernel)
  have s1 := l_s0_st t1
  have e1 := s1.2.1
  have J1 := s1.1
  have n1 : M1 5 1 = n := s1.2.2.1.trans hn
  have m1 : e_op 60 [0, i + 1] M1 = some (M 0 (i + 1).toNat) := (l_rd n1 (by omega) (by omega)).trans (congrArg some (e1 _))
  have hr : r_T r_wK 225 [192, M 0 (i + 1).toNat] M1 := r_sky J1
  obtain ⟨r2, M2, k2, s2, f2⟩ := l_rfF hr (by decide +kernel)
  have RR : h_R M2 := ⟨p_keep (by decide +kernel) (by decide +kernel) f2 (p_keep (by decide +kernel) (by decide +kernel) q4 hR.1), h_keB (by decide +kernel) f2 (h_keB (by decide +kernel) q4 hR.2.1), h_keI (by decide +kernel) f2 (h_keI (by decide +kernel) q4 hR.2.2.1), h_keS (by decide +kernel) f2 (h_keS (by decide +kernel) q4 hR.2.2.2.1), h_keF (by decide +kernel) f2 (h_keF (by decide +kernel) q4 hR.2.2.2.2)⟩
  have hU := h_skyK hR.2.2.2.1 hQ.2.2.2.1 (h_cG q4 (by decide +kernel)) k1 k2
  have RQ : h_Q M2 := ⟨h_ke1 (by decide +kernel) f2 (h_ke1 (by decide +kernel) q4 hQ.1), h_keC (by decide +kernel) f2 (h_keB (by decide +kernel) q4 hR.2.1) (h_keC (by decide +kernel) q4 hR.2.1 hQ.2.1), h_keCI (by decide +kernel) f2 (h_keI (by decide +kernel) q4 hR.2.2.1) (h_keCI (by decide +kernel) q4 hR.2.2.1 hQ.2.2.1), hU, h_keKI (by decide +kernel) f2 (h_keKI (by decide +kernel) q4 hQ.2.2.2.2)⟩
  have K1 : rx_K M1 := hd_KW (by decide +kernel) q4 hZ.2.2.1
  have RZ : h_Z M2 := ⟨hd_ke (by decide +kernel) f2 (h_keB (by decide +kernel) q4 hR.2.1) (hd_ke (by decide +kernel) q4 hR.2.1 hZ.1), hd_keI (by decide +kernel) f2 (h_keI (by decide +kernel) q4 hR.2.2.1) (hd_keI (by decide +kernel) q4 hR.2.2.1 hZ.2.1), rx_Kc (by decide) k2 K1, hd_0 (by decide +kernel) f2 (hd_0 (by decide +kernel) q4 hZ.2.2.2)⟩
  refine ⟨x5, x6, x7, M2, hd2.trans ?_, l_st_s0 s1 s2, ⟨⟨RR, RQ⟩, RZ⟩⟩
  rw [E_V_eq]
  show e_tv E_C (E_V 274) e_t274_968 [0, 8, 192, 213, i, x5, x6, x7] M = _
  unfold e_t274_968
  simp [zq_a, zq_b, zq_c, zq_d, zq_e, zq_f, zq_g, zq_h, zq_i, zq_j, zq_k, zq_l, zq_m, zq_n, zq_o, zq_p, zq_q, zq_r, zq_s, zq_t, zq_u, zq_v, zq_w, zq_x, zq_y, zq_z, zq_A, zq_B, zq_C, zq_D, zq_E, zq_F, zq_G, zq_H, zq_I, zq_J, zq_K, zq_L, ↓zq_M, ↓zq_N, ↓zq_O, ↓zq_P, ↓zq_Q, ↓zq_R, zq_S, zq_T, zq_U, zq_V, zq_W, zq_X, zq_Y, zq_Z, zq_0, zq_1, zq_2, zq_3, zq_4, zq_5, ↓zq_6, ↓zq_7, ↓zq_8, ↓zq_9, ↓zq_aa, zq_ab, zq_ac, zq_ad, zq_ae, zq_af, zq_ag, ↓zq_ah, ↓zq_ai, ↓zq_aj, zq_ak, ↓zq_al, ↓zq_am, e_b1, e_b2, x_o1, x_o2, w1, l1, m1, k1, k2]
/-- strength -/
theorem l_c18 {n i x5 x6 x7 : Int} {M : EM} (hi : 0 ≤ i ∧ i + 6 ≤ n ∧ n ≤ 3072) (hJ : r_J M) (hRD : h_RD M) (hn : M 5 1 = n) (hv : e_bit (fun x y => x &&& y) (M 0 i.toNat) 63 = 18) : ∃ y5 y6 y7 M1, E_V 274 23 [0, 8, 192, 213, i, x5, x6, x7] M = E_V 274 1903 [0, 8, 192, 213, i, y5, y6, y7] M1 ∧ l_st M M1 ∧ h_RD M1 := by
  obtain ⟨⟨hR, hQ⟩, hZ⟩ := hRD
  have hd := l_head (x5 := x5) (x6 := x6) (x7 := x7) hi hn
  rw [hv] at hd
  have hd2 : E_V 274 23 [0, 8, 192, 213, i, x5, x6, x7] M = E_V 274 993 [0, 8, 192, 213, i, x5, x6, x7] M := hd
  have w1 : e_w (i + 1) = i + 1 := a_w_id (by omega) (by omega)
  have l1 := l_rd (n := n) (j := i + 1) hn (by omega) (by omega)
  have v1 := l_32 hJ (i + 1).toNat
  have w2 : e_w (i + 2) = i + 2 := a_w_id (by omega) (by omega)
  have l2 := l_rd (n := n) (j := i + 2) hn (by omega) (by omega)
  have v2 := l_32 hJ (i + 2).toNat
  obtain ⟨r1, M1, k1, -, q3, q4⟩ := a_entry a_c122 (as := [8, M 0 (i + 1).toNat, M 0 (i + 2).toNat]) (M := M) ⟨List.mem_cons_self, a_gi v1.1 v1.2, a_gi v2.1 v2.2, trivial⟩ hJ.1
  have t1 := l_cl hJ q3 q4 (by decide +kernel)
  have s1 := l_s0_st t1
  have e1 := s1.2.1
  have J1 := s1.1
  have n1 : M1 5 1 = n := s1.2.2.1.trans hn
  have m1 : e_op 60 [0, i + 1] M1 = some (M 0 (i + 1).toNat) := (l_rd n1 (by omega) (by omega)).trans (congrArg some (e1 _))
  have m2 : e_op 60 [0, i + 2] M1 = some (M 0 (i + 2).toNat) := (l_rd n1 (by omega) (by omega)).trans (congrArg some (e1 _))
  have hr : r_T [] 228 [192, M 0 (i + 1).toNat, M 0 (i + 2).toNat] M1 := r_Tq J1 (r_strength J1)
  obtain ⟨r2, M2, k2, s2, f2⟩ := l_rfF hr (by decide +kernel)
  have RR : h_R M2 := ⟨p_keep (by decide +kernel) (by decide +kernel) f2 (p_keep (by decide +kernel) (by decide +kernel) q4 hR.1), h_keB (by decide +kernel) f2 (h_keB (by decide +kernel) q4 hR.2.1), h_keI (by decide +kernel) f2 (h_keI (by decide +kernel) q4 hR.2.2.1), h_keS (by decide +kernel) f2 (h_keS (by decide +kernel) q4 hR.2.2.2.1), h_keF (by decide +kernel) f2 (h_keF (by decide +kernel) q4 hR.2.2.2.2)⟩
  have RQ : h_Q M2 := ⟨h_ke1 (by decide +kernel) f2 (h_ke1 (by decide +kernel) q4 hQ.1), h_keC (by decide +kernel) f2 (h_keB (by decide +kernel) q4 hR.2.1) (h_keC (by decide +kernel) q4 hR.2.1 hQ.2.1), h_keCI (by decide +kernel) f2 (h_keI (by decide +kernel) q4 hR.2.2.1) (h_keCI (by decide +kernel) q4 hR.2.2.1 hQ.2.2.1), h_keK (by decide +kernel) f2 (h_keK (by decide +kernel) q4 hQ.2.2.2.1), h_keKI (by decide +kernel) f2 (h_keKI (by decide +kernel) q4 hQ.2.2.2.2)⟩
  have K1 : rx_K M1 := hd_KW (by decide +kernel) q4 hZ.2.2.1
  have RZ : h_Z M2 := ⟨hd_ke (by decide +kernel) f2 (h_keB (by decide +kernel) q4 hR.2.1) (hd_ke (by decide +kernel) q4 hR.2.1 hZ.1), hd_keI (by decide +kernel) f2 (h_keI (by decide +kernel) q4 hR.2.2.1) (hd_keI (by decide +kernel) q4 hR.2.2.1 hZ.2.1), rx_Kc (by decide) k2 K1, hd_0 (by decide +kernel) f2 (hd_0 (by decide +kernel) q4 hZ.2.2.2)⟩
  refine ⟨x5, x6, x7, M2, hd2.trans ?_, l_st_s0 s1 s2, ⟨⟨RR, RQ⟩, RZ⟩⟩
  rw [E_V_eq]
  show e_tv E_C (E_V 274) e_t274_993 [0, 8, 192, 213, i, x5, x6, x7] M = _
  unfold e_t274_993
  simp [zq_a, zq_b, zq_c, zq_d, zq_e, zq_f, zq_g, zq_h, zq_i, zq_j, zq_k, zq_l, zq_m, zq_n, zq_o, zq_p, zq_q, zq_r, zq_s, zq_t, zq_u, zq_v, zq_w, zq_x, zq_y, zq_z, zq_A, zq_B, zq_C, zq_D, zq_E, zq_F, zq_G, zq_H, zq_I, zq_J, zq_K, zq_L, ↓zq_M, ↓zq_N, ↓zq_O, ↓zq_P, ↓zq_Q, ↓zq_R, zq_S, zq_T, zq_U, zq_V, zq_W, zq_X, zq_Y, zq_Z, zq_0, zq_1, zq_2, zq_3, zq_4, zq_5, ↓zq_6, ↓zq_7, ↓zq_8, ↓zq_9, ↓zq_aa, zq_ab, zq_ac, zq_ad, zq_ae, zq_af, zq_ag, ↓zq_ah, ↓zq_ai, ↓zq_aj, zq_ak, ↓zq_al, ↓zq_am, e_b1, e_b2, x_o1, x_o2, w1, l1, m1, w2, l2, m2, k1, k2]
/-- hour -/
theorem l_c19 {n i x5 x6 x7 : Int} {M : EM} (hi : 0 ≤ i ∧ i + 6 ≤ n ∧ n ≤ 3072) (hJ : r_J M) (hRD : h_RD M) (hn : M 5 1 = n) (hv : e_bit (fun x y => x &&& y) (M 0 i.toNat) 63 = 19) : ∃ y5 y6 y7 M1, E_V 274 23 [0, 8, 192, 213, i, x5, x6, x7] M = E_V 274 1903 [0, 8, 192, 213, i, y5, y6, y7] M1 ∧ l_st M M1 ∧ h_RD M1 := by
  obtain ⟨⟨hR, hQ⟩, hZ⟩ := hRD
  have hd := l_head (x5 := x5) (x6 := x6) (x7 := x7) hi hn
  rw [hv] at hd
  have hd2 : E_V 274 23 [0, 8, 192, 213, i, x5, x6, x7] M = E_V 274 1030 [0, 8, 192, 213, i, x5, x6, x7] M := hd
  have w1 : e_w (i + 1) = i + 1 := a_w_id (by omega) (by omega)
  have l1 := l_rd (n := n) (j := i + 1) hn (by omega) (by omega)
  have v1 := l_32 hJ (i + 1).toNat
  have w2 : e_w (i + 2) = i + 2 := a_w_id (by omega) (by omega)
  have l2 := l_rd (n := n) (j := i + 2) hn (by omega) (by omega)
  have v2 := l_32 hJ (i + 2).toNat
  have w3 : e_w (i + 3) = i + 3 := a_w_id (by omega) (by omega)
  have l3 := l_rd (n := n) (j := i + 3) hn (by omega) (by omega)
  have v3 := l_32 hJ (i + 3).toNat
  obtain ⟨r1, M1, k1, -, q3, q4⟩ := a_entry a_c123 (as := [8, M 0 (i + 1).toNat, M 0 (i + 2).toNat, M 0 (i + 3).toNat]) (M := M) ⟨List.mem_cons_self, a_gi v1.1 v1.2, a_gi v2.1 v2.2, a_gi v3.1 v3.2, trivial⟩ hJ.1
  have t1 := l_cl hJ q3 q4 (by decide +kernel)
  have s1 := l_s0_st t1
  have e1 := s1.2.1
  have J1 := s1.1
  have n1 : M1 5 1 = n := s1.2.2.1.trans hn
  have m1 : e_op 60 [0, i + 1] M1 = some (M 0 (i + 1).toNat) := (l_rd n1 (by omega) (by omega)).trans (congrArg some (e1 _))
  have m2 : e_op 60 [0, i + 2] M1 = some (M 0 (i + 2).toNat) := (l_rd n1 (by omega) (by omega)).trans (congrArg some (e1 _))
  have m3 : e_op 60 [0, i + 3] M1 = some (M 0 (i + 3).toNat) := (l_rd n1 (by omega) (by omega)).trans (congrArg some (e1 _))
  have hr : r_T [] 230 [192, M 0 (i + 1).toNat, M 0 (i + 2).toNat, M 0 (i + 3).toNat] M1 := r_Tq J1 (r_hour J1)
  obtain ⟨r2, M2, k2, s2, f2⟩ := l_rfF hr (by decide +kernel)
  have RR : h_R M2 := ⟨p_keep (by decide +kernel) (by decide +kernel) f2 (p_keep (by decide +kernel) (by decide +kernel) q4 hR.1), h_keB (by decide +kernel) f2 (h_keB (by decide +kernel) q4 hR.2.1), h_keI (by decide +kernel) f2 (h_keI (by decide +kernel) q4 hR.2.2.1), h_keS (by decide +kernel) f2 (h_keS (by decide +kernel) q4 hR.2.2.2.1), h_keF (by decide +kernel) f2 (h_keF (by decide +kernel) q4 hR.2.2.2.2)⟩
  have RQ : h_Q M2 := ⟨h_ke1 (by decide +kernel) f2 (h_ke1 (by decide +kernel) q4 hQ.1), h_keC (by decide +kernel) f2 (h_keB (by decide +kernel) q4 hR.2.1) (h_keC (by decide +kernel) q4 hR.2.1 hQ.2.1), h_keCI (by decide +kernel) f2 (h_keI (by decide +kernel) q4 hR.2.2.1) (h_keCI (by decide +kernel) q4 hR.2.2.1 hQ.2.2.1), h_keK (by decide +kernel) f2 (h_keK (by decide +kernel) q4 hQ.2.2.2.1), h_keKI (by decide +kernel) f2 (h_keKI (by decide +kernel) q4 hQ.2.2.2.2)⟩
  have K1 : rx_K M1 := hd_KW (by decide +kernel) q4 hZ.2.2.1
  have RZ : h_Z M2 := ⟨hd_ke (by decide +kernel) f2 (h_keB (by decide +kernel) q4 hR.2.1) (hd_ke (by decide +kernel) q4 hR.2.1 hZ.1), hd_keI (by decide +kernel) f2 (h_keI (by decide +kernel) q4 hR.2.2.1) (hd_keI (by decide +kernel) q4 hR.2.2.1 hZ.2.1), rx_Kc (by decide) k2 K1, hd_0 (by decide +kernel) f2 (gz_c (by decide) (by decide) hJ k1 hZ.2.2.2)⟩
  refine ⟨x5, x6, x7, M2, hd2.trans ?_, l_st_s0 s1 s2, ⟨⟨RR, RQ⟩, RZ⟩⟩
  rw [E_V_eq]
  show e_tv E_C (E_V 274) e_t274_1030 [0, 8, 192, 213, i, x5, x6, x7] M = _
  unfold e_t274_1030
  simp [zq_a, zq_b, zq_c, zq_d, zq_e, zq_f, zq_g, zq_h, zq_i, zq_j, zq_k, zq_l, zq_m, zq_n, zq_o, zq_p, zq_q, zq_r, zq_s, zq_t, zq_u, zq_v, zq_w, zq_x, zq_y, zq_z, zq_A, zq_B, zq_C, zq_D, zq_E, zq_F, zq_G, zq_H, zq_I, zq_J, zq_K, zq_L, ↓zq_M, ↓zq_N, ↓zq_O, ↓zq_P, ↓zq_Q, ↓zq_R, zq_S, zq_T, zq_U, zq_V, zq_W, zq_X, zq_Y, zq_Z, zq_0, zq_1, zq_2, zq_3, zq_4, zq_5, ↓zq_6, ↓zq_7, ↓zq_8, ↓zq_9, ↓zq_aa, zq_ab, zq_ac, zq_ad, zq_ae, zq_af, zq_ag, ↓zq_ah, ↓zq_ai, ↓zq_aj, zq_ak, ↓zq_al, ↓zq_am, e_b1, e_b2, x_o1, x_o2, w1, l1, m1, w2, l2, m2, w3, l3, m3, k1, k2]
/-- day -/
theorem l_c20 {n i x5 x6 x7 : Int} {M : EM} (hi : 0 ≤ i ∧ i + 6 ≤ n ∧ n ≤ 3072) (hJ : r_J M) (hRD : h_RD M) (hn : M 5 1 = n) (hv : e_bit (fun x y => x &&& y) (M 0 i.toNat) 63 = 20) : ∃ y5 y6 y7 M1, E_V 274 23 [0, 8, 192, 213, i, x5, x6, x7] M = E_V 274 1903 [0, 8, 192, 213, i, y5, y6, y7] M1 ∧ l_st M M1 ∧ h_RD M1 := by
  obtain ⟨⟨hR, hQ⟩, hZ⟩ := hRD
  have hd := l_head (x5 := x5) (x6 := x6) (x7 := x7) hi hn
  rw [hv] at hd
  have hd2 : E_V 274 23 [0, 8, 192, 213, i, x5, x6, x7] M = E_V 274 1079 [0, 8, 192, 213, i, x5, x6, x7] M := hd
  have w1 : e_w (i + 1) = i + 1 := a_w_id (by omega) (by omega)
  have l1 := l_rd (n := n) (j := i + 1) hn (by omega) (by omega)
  have v1 := l_32 hJ (i + 1).toNat
  have w2 : e_w (i + 2) = i + 2 := a_w_id (by omega) (by omega)
  have l2 := l_rd (n := n) (j := i + 2) hn (by omega) (by omega)
  have v2 := l_32 hJ (i + 2).toNat
  obtain ⟨r1, M1, k1, -, q3, q4⟩ := a_entry a_c124 (as := [8, M 0 (i + 1).toNat, M 0 (i + 2).toNat]) (M := M) ⟨List.mem_cons_self, a_gi v1.1 v1.2, a_gi v2.1 v2.2, trivial⟩ hJ.1
  have t1 := l_cl hJ q3 q4 (by decide +kernel)
  have s1 := l_s0_st t1
  have e1 := s1.2.1
  have J1 := s1.1
  have n1 : M1 5 1 = n := s1.2.2.1.trans hn
  have m1 : e_op 60 [0, i + 1] M1 = some (M 0 (i + 1).toNat) := (l_rd n1 (by omega) (by omega)).trans (congrArg some (e1 _))
  have m2 : e_op 60 [0, i + 2] M1 = some (M 0 (i + 2).toNat) := (l_rd n1 (by omega) (by omega)).trans (congrArg some (e1 _))
  have hr : r_T [] 231 [192, M 0 (i + 1).toNat, M 0 (i + 2).toNat] M1 := r_Tq J1 (r_day J1)
  obtain ⟨r2, M2, k2, s2, f2⟩ := l_rfF hr (by decide +kernel)
  have RR : h_R M2 := ⟨p_keep (by decide +kernel) (by decide +kernel) f2 (p_keep (by decide +kernel) (by decide +kernel) q4 hR.1), h_keB (by decide +kernel) f2 (h_keB (by decide +kernel) q4 hR.2.1), h_keI (by decide +kernel) f2 (h_keI (by decide +kernel) q4 hR.2.2.1), h_keS (by decide +kernel) f2 (h_keS (by decide +kernel) q4 hR.2.2.2.1), h_keF (by decide +kernel) f2 (h_keF (by decide +kernel) q4 hR.2.2.2.2)⟩
  have RQ : h_Q M2 := ⟨h_ke1 (by decide +kernel) f2 (h_ke1 (by decide +kernel) q4 hQ.1), h_keC (by decide +kernel) f2 (h_keB (by decide +kernel) q4 hR.2.1) (h_keC (by decide +kernel) q4 hR.2.1 hQ.2.1), h_keCI (by decide +kernel) f2 (h_keI (by decide +kernel) q4 hR.2.2.1) (h_keCI (by decide +kernel) q4 hR.2.2.1 hQ.2.2.1), h_keK (by decide +kernel) f2 (h_keK (by decide +kernel) q4 hQ.2.2.2.1), h_keKI (by decide +kernel) f2 (h_keKI (by decide +kernel) q4 hQ.2.2.2.2)⟩
  have K1 : rx_K M1 := hd_KW (by decide +kernel) q4 hZ.2.2.1
  have RZ : h_Z M2 := ⟨hd_ke (by decide +kernel) f2 (h_keB (by decide +kernel) q4 hR.2.1) (hd_ke (by decide +kernel) q4 hR.2.1 hZ.1), hd_keI (by decide +kernel) f2 (h_keI (by decide +kernel) q4 hR.2.2.1) (hd_keI (by decide +kernel) q4 hR.2.2.1 hZ.2.1), rx_Kc (by decide) k2 K1, hd_0 (by decide +kernel) f2 (gz_c (by decide) (by decide) hJ k1 hZ.2.2.2)⟩
  refine ⟨x5, x6, x7, M2, hd2.trans ?_, l_st_s0 s1 s2, ⟨⟨RR, RQ⟩, RZ⟩⟩
  rw [E_V_eq]
  show e_tv E_C (E_V 274) e_t274_1079 [0, 8, 192, 213, i, x5, x6, x7] M = _
  unfold e_t274_1079
  simp [zq_a, zq_b, zq_c, zq_d, zq_e, zq_f, zq_g, zq_h, zq_i, zq_j, zq_k, zq_l, zq_m, zq_n, zq_o, zq_p, zq_q, zq_r, zq_s, zq_t, zq_u, zq_v, zq_w, zq_x, zq_y, zq_z, zq_A, zq_B, zq_C, zq_D, zq_E, zq_F, zq_G, zq_H, zq_I, zq_J, zq_K, zq_L, ↓zq_M, ↓zq_N, ↓zq_O, ↓zq_P, ↓zq_Q, ↓zq_R, zq_S, zq_T, zq_U, zq_V, zq_W, zq_X, zq_Y, zq_Z, zq_0, zq_1, zq_2, zq_3, zq_4, zq_5, ↓zq_6, ↓zq_7, ↓zq_8, ↓zq_9, ↓zq_aa, zq_ab, zq_ac, zq_ad, zq_ae, zq_af, zq_ag, ↓zq_ah, ↓zq_ai, ↓zq_aj, zq_ak, ↓zq_al, ↓zq_am, e_b1, e_b2, x_o1, x_o2, w1, l1, m1, w2, l2, m2, k1, k2]
