theorem p_51r (M : EM) : ∃ M1, E_C 51 [10, 78] M = some (0, M1) ∧ p_C 68 0 p_D51 M M1 := by
  have hd : p_dir 68 0 := by unfold p_dir; decide
  have f0 : ∀ M, e_gf 256 [78] M = some (M 78 0) := fun M => c_gf (by decide +kernel) (by decide +kernel)
  have w0 : ∀ v M, e_pf 256 [10, v] M = some (e_up M 10 0 v) := fun v M => c_pf (by decide +kernel) (by decide +kernel)
  have g1 : ∀ M, e_gf 257 [78] M = some 79 := fun M => p_g 257 78 79 M (by decide +kernel)
  have h1 : ∀ M, e_gf 257 [10] M = some 11 := fun M => p_g 257 10 11 M (by decide +kernel)
  have c1 : ∀ M, E_C 148 [79, 11] M = some (0, e_cpm M 79 0 11 0 40) := fun M => p_co (n := 40) (by decide +kernel) (by decide +kernel) M
  have g2 : ∀ M, e_gf 258 [78] M = some 80 := fun M => p_g 258 78 80 M (by decide +kernel)
  have h2 : ∀ M, e_gf 258 [10] M = some 12 := fun M => p_g 258 10 12 M (by decide +kernel)
  have c2 : ∀ M, E_C 148 [80, 12] M = some (0, e_cpm M 80 0 12 0 40) := fun M => p_co (n := 40) (by decide +kernel) (by decide +kernel) M
  have g3 : ∀ M, e_gf 259 [78] M = some 81 := fun M => p_g 259 78 81 M (by decide +kernel)
  have h3 : ∀ M, e_gf 259 [10] M = some 13 := fun M => p_g 259 10 13 M (by decide +kernel)
  have c3 : ∀ M, E_C 148 [81, 13] M = some (0, e_cpm M 81 0 13 0 40) := fun M => p_co (n := 40) (by decide +kernel) (by decide +kernel) M
  have g4 : ∀ M, e_gf 260 [78] M = some 82 := fun M => p_g 260 78 82 M (by decide +kernel)
  have h4 : ∀ M, e_gf 260 [10] M = some 14 := fun M => p_g 260 10 14 M (by decide +kernel)
  have c4 : ∀ M, E_C 148 [82, 14] M = some (0, e_cpm M 82 0 14 0 40) := fun M => p_co (n := 40) (by decide +kernel) (by decide +kernel) M
  have g5 : ∀ M, e_gf 261 [78] M = some 83 := fun M => p_g 261 78 83 M (by decide +kernel)
  have h5 : ∀ M, e_gf 261 [10] M = some 15 := fun M => p_g 261 10 15 M (by decide +kernel)
  have c5 : ∀ M, E_C 148 [83, 15] M = some (0, e_cpm M 83 0 15 0 320) := fun M => p_co (n := 320) (by decide +kernel) (by decide +kernel) M
  have g6 : ∀ M, e_gf 262 [78] M = some 84 := fun M => p_g 262 78 84 M (by decide +kernel)
  have h6 : ∀ M, e_gf 262 [10] M = some 16 := fun M => p_g 262 10 16 M (by decide +kernel)
  have c6 : ∀ M, E_C 148 [84, 16] M = some (0, e_cpm M 84 0 16 0 320) := fun M => p_co (n := 320) (by decide +kernel) (by decide +kernel) M
  have g7 : ∀ M, e_gf 263 [78] M = some 85 := fun M => p_g 263 78 85 M (by decide +kernel)
  have h7 : ∀ M, e_gf 263 [10] M = some 17 := fun M => p_g 263 10 17 M (by decide +kernel)
  have c7 : ∀ M, E_C 148 [85, 17] M = some (0, e_cpm M 85 0 17 0 320) := fun M => p_co (n := 320) (by decide +kernel) (by decide +kernel) M
  refine ⟨(e_cpm (e_cpm (e_cpm (e_cpm (e_cpm (e_cpm (e_cpm (e_up M 10 0 (M 78 0)) 79 0 11 0 40) 80 0 12 0 40) 81 0 13 0 40) 82 0 14 0 40) 83 0 15 0 320) 84 0 16 0 320) 85 0 17 0 320), ?_, (p_C_row (so := 68) (to := 0) (id := 17) (n := 320) hd (by decide) (by decide) (p_C_row (so := 68) (to := 0) (id := 16) (n := 320) hd (by decide) (by decide) (p_C_row (so := 68) (to := 0) (id := 15) (n := 320) hd (by decide) (by decide) (p_C_row (so := 68) (to := 0) (id := 14) (n := 40) hd (by decide) (by decide) (p_C_row (so := 68) (to := 0) (id := 13) (n := 40) hd (by decide) (by decide) (p_C_row (so := 68) (to := 0) (id := 12) (n := 40) hd (by decide) (by decide) (p_C_row (so := 68) (to := 0) (id := 11) (n := 40) hd (by decide) (by decide) (p_C_cell (so := 68) (to := 0) (id := 10) (j := 0) hd (by decide) p_C_0))))))))⟩
  rw [r_ent (show e_rok 51 [10, 78] = true by decide +kernel)]
  show e_tv E_C (E_V 51) e_t51_0 [10, 78] M = _
  unfold e_t51_0
  simp [e_tv, e_ev, e_sv, e_b1, e_b2, x_o1, x_o2, f0, w0, g1, h1, c1, g2, h2, c2, g3, h3, c3, g4, h4, c4, g5, h5, c5, g6, h6, c6, g7, h7, c7]
def p_D34 : AW := (24, 0, 39) :: (23, 0, 39) :: (22, 0, 39) :: (21, 0, 159) :: (20, 0, 239) :: (19, 0, 239) :: []
theorem p_34i (M : EM) : ∃ M1, E_C 34 [86, 18] M = some (0, M1) ∧ p_C 0 68 p_D34 M M1 := by
  have hd : p_dir 0 68 := by unfold p_dir; decide
  have g0 : ∀ M, e_gf 64 [18] M = some 19 := fun M => p_g 64 18 19 M (by decide +kernel)
  have h0 : ∀ M, e_gf 64 [86] M = some 87 := fun M => p_g 64 86 87 M (by decide +kernel)
  have c0 : ∀ M, E_C 148 [19, 87] M = some (0, e_cpm M 19 0 87 0 240) := fun M => p_co (n := 240) (by decide +kernel) (by decide +kernel) M
  have g1 : ∀ M, e_gf 65 [18] M = some 20 := fun M => p_g 65 18 20 M (by decide +kernel)
  have h1 : ∀ M, e_gf 65 [86] M = some 88 := fun M => p_g 65 86 88 M (by decide +kernel)
  have c1 : ∀ M, E_C 148 [20, 88] M = some (0, e_cpm M 20 0 88 0 240) := fun M => p_co (n := 240) (by decide +kernel) (by decide +kernel) M
  have g2 : ∀ M, e_gf 66 [18] M = some 21 := fun M => p_g 66 18 21 M (by decide +kernel)
  have h2 : ∀ M, e_gf 66 [86] M = some 89 := fun M => p_g 66 86 89 M (by decide +kernel)
  have c2 : ∀ M, E_C 148 [21, 89] M = some (0, e_cpm M 21 0 89 0 160) := fun M => p_co (n := 160) (by decide +kernel) (by decide +kernel) M
  have g3 : ∀ M, e_gf 67 [18] M = some 22 := fun M => p_g 67 18 22 M (by decide +kernel)
  have h3 : ∀ M, e_gf 67 [86] M = some 90 := fun M => p_g 67 86 90 M (by decide +kernel)
  have c3 : ∀ M, E_C 148 [22, 90] M = some (0, e_cpm M 22 0 90 0 40) := fun M => p_co (n := 40) (by decide +kernel) (by decide +kernel) M
  have g4 : ∀ M, e_gf 68 [18] M = some 23 := fun M => p_g 68 18 23 M (by decide +kernel)
  have h4 : ∀ M, e_gf 68 [86] M = some 91 := fun M => p_g 68 86 91 M (by decide +kernel)
  have c4 : ∀ M, E_C 148 [23, 91] M = some (0, e_cpm M 23 0 91 0 40) := fun M => p_co (n := 40) (by decide +kernel) (by decide +kernel) M
  have g5 : ∀ M, e_gf 69 [18] M = some 24 := fun M => p_g 69 18 24 M (by decide +kernel)
  have h5 : ∀ M, e_gf 69 [86] M = some 92 := fun M => p_g 69 86 92 M (by decide +kernel)
  have c5 : ∀ M, E_C 148 [24, 92] M = some (0, e_cpm M 24 0 92 0 40) := fun M => p_co (n := 40) (by decide +kernel) (by decide +kernel) M
  refine ⟨(e_cpm (e_cpm (e_cpm (e_cpm (e_cpm (e_cpm M 19 0 87 0 240) 20 0 88 0 240) 21 0 89 0 160) 22 0 90 0 40) 23 0 91 0 40) 24 0 92 0 40), ?_, (p_C_row (so := 0) (to := 68) (id := 24) (n := 40) hd (by decide) (by decide) (p_C_row (so := 0) (to := 68) (id := 23) (n := 40) hd (by decide) (by decide) (p_C_row (so := 0) (to := 68) (id := 22) (n := 40) hd (by decide) (by decide) (p_C_row (so := 0) (to := 68) (id := 21) (n := 160) hd (by decide) (by decide) (p_C_row (so := 0) (to := 68) (id := 20) (n := 240) hd (by decide) (by decide) (p_C_row (so := 0) (to := 68) (id := 19) (n := 240) hd (by decide) (by decide) p_C_0))))))⟩
  rw [r_ent (show e_rok 34 [86, 18] = true by decide +kernel)]
  show e_tv E_C (E_V 34) e_t34_0 [86, 18] M = _
  unfold e_t34_0
  simp [e_tv, e_ev, e_sv, e_b1, e_b2, x_o1, x_o2, g0, h0, c0, g1, h1, c1, g2, h2, c2, g3, h3, c3, g4, h4, c4, g5, h5, c5]
