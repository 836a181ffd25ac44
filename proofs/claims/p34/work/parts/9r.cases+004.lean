/-- seek -/
theorem l_c11 {n i x5 x6 x7 : Int} {M : EM} (hi : 0 ≤ i ∧ i + 6 ≤ n ∧ n ≤ 3072) (hJ : r_J M) (hR : h_R M) (hn : M 5 1 = n) (hv : e_bit (fun x y => x &&& y) (M 0 i.toNat) 63 = 11) : ∃ y5 y6 y7 M1, E_V 274 23 [0, 8, 192, 213, i, x5, x6, x7] M = E_V 274 1903 [0, 8, 192, 213, i, y5, y6, y7] M1 ∧ l_st M M1 ∧ h_R M1 := by
  have hd := l_head (x5 := x5) (x6 := x6) (x7 := x7) hi hn
  rw [hv] at hd
  have hd2 : E_V 274 23 [0, 8, 192, 213, i, x5, x6, x7] M = E_V 274 686 [0, 8, 192, 213, i, x5, x6, x7] M := hd
  have w1 : e_w (i + 1) = i + 1 := a_w_id (by omega) (by omega)
  have l1 := l_rd (n := n) (j := i + 1) hn (by omega) (by omega)
  have v1 := l_32 hJ (i + 1).toNat
  have w2 : e_w (i + 2) = i + 2 := a_w_id (by omega) (by omega)
  have l2 := l_rd (n := n) (j := i + 2) hn (by omega) (by omega)
  have v2 := l_32 hJ (i + 2).toNat
  obtain ⟨r1, M1, k1, -, q3, q4⟩ := a_entry a_c115 (as := [8, M 0 (i + 1).toNat, M 0 (i + 2).toNat]) (M := M) ⟨List.mem_cons_self, a_gi v1.1 v1.2, a_gi v2.1 v2.2, trivial⟩ hJ.1
  have t1 := l_cl hJ q3 q4 (by decide +kernel)
  have s1 := l_s0_st t1
  have e1 := s1.2.1
  have J1 := s1.1
  have n1 : M1 5 1 = n := s1.2.2.1.trans hn
  have m1 : e_op 60 [0, i + 1] M1 = some (M 0 (i + 1).toNat) := (l_rd n1 (by omega) (by omega)).trans (congrArg some (e1 _))
  have m2 : e_op 60 [0, i + 2] M1 = some (M 0 (i + 2).toNat) := (l_rd n1 (by omega) (by omega)).trans (congrArg some (e1 _))
  have hr : r_T r_wBx 216 [192, M 0 (i + 1).toNat, M 0 (i + 2).toNat] M1 := r_seek J1
  obtain ⟨r2, M2, k2, s2, f2⟩ := l_rfF hr (by decide +kernel)
  have RR : h_R M2 := ⟨p_keep (by decide +kernel) (by decide +kernel) f2 (p_keep (by decide +kernel) (by decide +kernel) q4 hR.1), h_keB (by decide +kernel) f2 (h_keB (by decide +kernel) q4 hR.2.1), h_keI (by decide +kernel) f2 (h_keI (by decide +kernel) q4 hR.2.2.1), h_keS (by decide +kernel) f2 (h_keS (by decide +kernel) q4 hR.2.2.2.1), h_keF (by decide +kernel) f2 (h_keF (by decide +kernel) q4 hR.2.2.2.2)⟩
  refine ⟨x5, x6, x7, M2, hd2.trans ?_, l_st_s0 s1 s2, RR⟩
  rw [E_V_eq]
  show e_tv E_C (E_V 274) e_t274_686 [0, 8, 192, 213, i, x5, x6, x7] M = _
  unfold e_t274_686
  simp [e_tv, e_ev, e_sv, e_b1, e_b2, x_o1, x_o2, w1, l1, m1, w2, l2, m2, k1, k2]
/-- led -/
theorem l_c12 {n i x5 x6 x7 : Int} {M : EM} (hi : 0 ≤ i ∧ i + 6 ≤ n ∧ n ≤ 3072) (hJ : r_J M) (hR : h_R M) (hn : M 5 1 = n) (hv : e_bit (fun x y => x &&& y) (M 0 i.toNat) 63 = 12) : ∃ y5 y6 y7 M1, E_V 274 23 [0, 8, 192, 213, i, x5, x6, x7] M = E_V 274 1903 [0, 8, 192, 213, i, y5, y6, y7] M1 ∧ l_st M M1 ∧ h_R M1 := by
  have hd := l_head (x5 := x5) (x6 := x6) (x7 := x7) hi hn
  rw [hv] at hd
  have hd2 : E_V 274 23 [0, 8, 192, 213, i, x5, x6, x7] M = E_V 274 723 [0, 8, 192, 213, i, x5, x6, x7] M := hd
  have w1 : e_w (i + 1) = i + 1 := a_w_id (by omega) (by omega)
  have l1 := l_rd (n := n) (j := i + 1) hn (by omega) (by omega)
  have v1 := l_32 hJ (i + 1).toNat
  have w2 : e_w (i + 2) = i + 2 := a_w_id (by omega) (by omega)
  have l2 := l_rd (n := n) (j := i + 2) hn (by omega) (by omega)
  have v2 := l_32 hJ (i + 2).toNat
  have w3 : e_w (i + 3) = i + 3 := a_w_id (by omega) (by omega)
  have l3 := l_rd (n := n) (j := i + 3) hn (by omega) (by omega)
  have v3 := l_32 hJ (i + 3).toNat
  obtain ⟨r1, M1, k1, -, q3, q4⟩ := a_entry a_c116 (as := [8, M 0 (i + 1).toNat, M 0 (i + 2).toNat, M 0 (i + 3).toNat]) (M := M) ⟨List.mem_cons_self, a_gi v1.1 v1.2, a_gi v2.1 v2.2, a_gi v3.1 v3.2, trivial⟩ hJ.1
  have t1 := l_cl hJ q3 q4 (by decide +kernel)
  have s1 := l_s0_st t1
  have e1 := s1.2.1
  have J1 := s1.1
  have n1 : M1 5 1 = n := s1.2.2.1.trans hn
  have m1 : e_op 60 [0, i + 1] M1 = some (M 0 (i + 1).toNat) := (l_rd n1 (by omega) (by omega)).trans (congrArg some (e1 _))
  have m2 : e_op 60 [0, i + 2] M1 = some (M 0 (i + 2).toNat) := (l_rd n1 (by omega) (by omega)).trans (congrArg some (e1 _))
  have m3 : e_op 60 [0, i + 3] M1 = some (M 0 (i + 3).toNat) := (l_rd n1 (by omega) (by omega)).trans (congrArg some (e1 _))
  have hr : r_T [] 217 [192, M 0 (i + 1).toNat, M 0 (i + 2).toNat, M 0 (i + 3).toNat] M1 := r_Tq J1 (r_led J1)
  obtain ⟨r2, M2, k2, s2, f2⟩ := l_rfF hr (by decide +kernel)
  have RR : h_R M2 := ⟨p_keep (by decide +kernel) (by decide +kernel) f2 (p_keep (by decide +kernel) (by decide +kernel) q4 hR.1), h_keB (by decide +kernel) f2 (h_keB (by decide +kernel) q4 hR.2.1), h_keI (by decide +kernel) f2 (h_keI (by decide +kernel) q4 hR.2.2.1), h_keS (by decide +kernel) f2 (h_keS (by decide +kernel) q4 hR.2.2.2.1), h_keF (by decide +kernel) f2 (h_keF (by decide +kernel) q4 hR.2.2.2.2)⟩
  refine ⟨x5, x6, x7, M2, hd2.trans ?_, l_st_s0 s1 s2, RR⟩
  rw [E_V_eq]
  show e_tv E_C (E_V 274) e_t274_723 [0, 8, 192, 213, i, x5, x6, x7] M = _
  unfold e_t274_723
  simp [e_tv, e_ev, e_sv, e_b1, e_b2, x_o1, x_o2, w1, l1, m1, w2, l2, m2, w3, l3, m3, k1, k2]
/-- lies -/
theorem l_c13 {n i x5 x6 x7 : Int} {M : EM} (hi : 0 ≤ i ∧ i + 6 ≤ n ∧ n ≤ 3072) (hJ : r_J M) (hR : h_R M) (hn : M 5 1 = n) (hv : e_bit (fun x y => x &&& y) (M 0 i.toNat) 63 = 13) : ∃ y5 y6 y7 M1, E_V 274 23 [0, 8, 192, 213, i, x5, x6, x7] M = E_V 274 1903 [0, 8, 192, 213, i, y5, y6, y7] M1 ∧ l_st M M1 ∧ h_R M1 := by
  have hd := l_head (x5 := x5) (x6 := x6) (x7 := x7) hi hn
  rw [hv] at hd
  have hd2 : E_V 274 23 [0, 8, 192, 213, i, x5, x6, x7] M = E_V 274 772 [0, 8, 192, 213, i, x5, x6, x7] M := hd
  have w1 : e_w (i + 1) = i + 1 := a_w_id (by omega) (by omega)
  have l1 := l_rd (n := n) (j := i + 1) hn (by omega) (by omega)
  have v1 := l_32 hJ (i + 1).toNat
  have w2 : e_w (i + 2) = i + 2 := a_w_id (by omega) (by omega)
  have l2 := l_rd (n := n) (j := i + 2) hn (by omega) (by omega)
  have v2 := l_32 hJ (i + 2).toNat
  have w3 : e_w (i + 3) = i + 3 := a_w_id (by omega) (by omega)
  have l3 := l_rd (n := n) (j := i + 3) hn (by omega) (by omega)
  have v3 := l_32 hJ (i + 3).toNat
  obtain ⟨r1, M1, k1, -, q3, q4⟩ := a_entry a_c117 (as := [8, M 0 (i + 1).toNat, M 0 (i + 2).toNat, M 0 (i + 3).toNat]) (M := M) ⟨List.mem_cons_self, a_gi v1.1 v1.2, a_gi v2.1 v2.2, a_gi v3.1 v3.2, trivial⟩ hJ.1
  have t1 := l_cl hJ q3 q4 (by decide +kernel)
  have s1 := l_s0_st t1
  have e1 := s1.2.1
  have J1 := s1.1
  have n1 : M1 5 1 = n := s1.2.2.1.trans hn
  have m1 : e_op 60 [0, i + 1] M1 = some (M 0 (i + 1).toNat) := (l_rd n1 (by omega) (by omega)).trans (congrArg some (e1 _))
  have m2 : e_op 60 [0, i + 2] M1 = some (M 0 (i + 2).toNat) := (l_rd n1 (by omega) (by omega)).trans (congrArg some (e1 _))
  have m3 : e_op 60 [0, i + 3] M1 = some (M 0 (i + 3).toNat) := (l_rd n1 (by omega) (by omega)).trans (congrArg some (e1 _))
  have hr : r_T r_wL 219 [192, M 0 (i + 1).toNat, M 0 (i + 2).toNat, M 0 (i + 3).toNat] M1 := r_liesOf J1 v2 v3
  obtain ⟨r2, M2, k2, s2, f2⟩ := l_rfF hr (by decide +kernel)
  have RR : h_R M2 := ⟨p_keep (by decide +kernel) (by decide +kernel) f2 (p_keep (by decide +kernel) (by decide +kernel) q4 hR.1), h_keB (by decide +kernel) f2 (h_keB (by decide +kernel) q4 hR.2.1), h_keI (by decide +kernel) f2 (h_keI (by decide +kernel) q4 hR.2.2.1), h_keS (by decide +kernel) f2 (h_keS (by decide +kernel) q4 hR.2.2.2.1), h_keF (by decide +kernel) f2 (h_keF (by decide +kernel) q4 hR.2.2.2.2)⟩
  refine ⟨x5, x6, x7, M2, hd2.trans ?_, l_st_s0 s1 s2, RR⟩
  rw [E_V_eq]
  show e_tv E_C (E_V 274) e_t274_772 [0, 8, 192, 213, i, x5, x6, x7] M = _
  unfold e_t274_772
  simp [e_tv, e_ev, e_sv, e_b1, e_b2, x_o1, x_o2, w1, l1, m1, w2, l2, m2, w3, l3, m3, k1, k2]
