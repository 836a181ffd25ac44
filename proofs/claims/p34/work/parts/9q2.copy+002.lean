theorem p_34r (M : EM) : ∃ M1, E_C 34 [18, 86] M = some (0, M1) ∧ p_C 68 0 p_D34 M M1 := by
  have hd : p_dir 68 0 := by unfold p_dir; decide
  have g0 : ∀ M, e_gf 64 [86] M = some 87 := fun M => p_g 64 86 87 M (by decide +kernel)
  have h0 : ∀ M, e_gf 64 [18] M = some 19 := fun M => p_g 64 18 19 M (by decide +kernel)
  have c0 : ∀ M, E_C 148 [87, 19] M = some (0, e_cpm M 87 0 19 0 240) := fun M => p_co (n := 240) (by decide +kernel) (by decide +kernel) M
  have g1 : ∀ M, e_gf 65 [86] M = some 88 := fun M => p_g 65 86 88 M (by decide +kernel)
  have h1 : ∀ M, e_gf 65 [18] M = some 20 := fun M => p_g 65 18 20 M (by decide +kernel)
  have c1 : ∀ M, E_C 148 [88, 20] M = some (0, e_cpm M 88 0 20 0 240) := fun M => p_co (n := 240) (by decide +kernel) (by decide +kernel) M
  have g2 : ∀ M, e_gf 66 [86] M = some 89 := fun M => p_g 66 86 89 M (by decide +kernel)
  have h2 : ∀ M, e_gf 66 [18] M = some 21 := fun M => p_g 66 18 21 M (by decide +kernel)
  have c2 : ∀ M, E_C 148 [89, 21] M = some (0, e_cpm M 89 0 21 0 160) := fun M => p_co (n := 160) (by decide +kernel) (by decide +kernel) M
  have g3 : ∀ M, e_gf 67 [86] M = some 90 := fun M => p_g 67 86 90 M (by decide +kernel)
  have h3 : ∀ M, e_gf 67 [18] M = some 22 := fun M => p_g 67 18 22 M (by decide +kernel)
  have c3 : ∀ M, E_C 148 [90, 22] M = some (0, e_cpm M 90 0 22 0 40) := fun M => p_co (n := 40) (by decide +kernel) (by decide +kernel) M
  have g4 : ∀ M, e_gf 68 [86] M = some 91 := fun M => p_g 68 86 91 M (by decide +kernel)
  have h4 : ∀ M, e_gf 68 [18] M = some 23 := fun M => p_g 68 18 23 M (by decide +kernel)
  have c4 : ∀ M, E_C 148 [91, 23] M = some (0, e_cpm M 91 0 23 0 40) := fun M => p_co (n := 40) (by decide +kernel) (by decide +kernel) M
  have g5 : ∀ M, e_gf 69 [86] M = some 92 := fun M => p_g 69 86 92 M (by decide +kernel)
  have h5 : ∀ M, e_gf 69 [18] M = some 24 := fun M => p_g 69 18 24 M (by decide +kernel)
  have c5 : ∀ M, E_C 148 [92, 24] M = some (0, e_cpm M 92 0 24 0 40) := fun M => p_co (n := 40) (by decide +kernel) (by decide +kernel) M
  refine ⟨(e_cpm (e_cpm (e_cpm (e_cpm (e_cpm (e_cpm M 87 0 19 0 240) 88 0 20 0 240) 89 0 21 0 160) 90 0 22 0 40) 91 0 23 0 40) 92 0 24 0 40), ?_, (p_C_row (so := 68) (to := 0) (id := 24) (n := 40) hd (by decide) (by decide) (p_C_row (so := 68) (to := 0) (id := 23) (n := 40) hd (by decide) (by decide) (p_C_row (so := 68) (to := 0) (id := 22) (n := 40) hd (by decide) (by decide) (p_C_row (so := 68) (to := 0) (id := 21) (n := 160) hd (by decide) (by decide) (p_C_row (so := 68) (to := 0) (id := 20) (n := 240) hd (by decide) (by decide) (p_C_row (so := 68) (to := 0) (id := 19) (n := 240) hd (by decide) (by decide) p_C_0))))))⟩
  rw [r_ent (show e_rok 34 [18, 86] = true by decide +kernel)]
  show e_tv E_C (E_V 34) e_t34_0 [18, 86] M = _
  unfold e_t34_0
  simp [e_tv, e_ev, e_sv, e_b1, e_b2, x_o1, x_o2, g0, h0, c0, g1, h1, c1, g2, h2, c2, g3, h3, c3, g4, h4, c4, g5, h5, c5]
def p_D72 : AW := (26, 7, 7) :: (26, 6, 6) :: (32, 0, 119) :: (31, 0, 11) :: (30, 0, 11) :: (29, 0, 9) :: (28, 0, 9) :: (27, 0, 9) :: []
theorem p_72i (M : EM) : ∃ M1, E_C 72 [94, 26] M = some (0, M1) ∧ p_C 0 68 p_D72 M M1 := by
  have hd : p_dir 0 68 := by unfold p_dir; decide
  have g0 : ∀ M, e_gf 384 [26] M = some 27 := fun M => p_g 384 26 27 M (by decide +kernel)
  have h0 : ∀ M, e_gf 384 [94] M = some 95 := fun M => p_g 384 94 95 M (by decide +kernel)
  have c0 : ∀ M, E_C 148 [27, 95] M = some (0, e_cpm M 27 0 95 0 10) := fun M => p_co (n := 10) (by decide +kernel) (by decide +kernel) M
  have g1 : ∀ M, e_gf 385 [26] M = some 28 := fun M => p_g 385 26 28 M (by decide +kernel)
  have h1 : ∀ M, e_gf 385 [94] M = some 96 := fun M => p_g 385 94 96 M (by decide +kernel)
  have c1 : ∀ M, E_C 148 [28, 96] M = some (0, e_cpm M 28 0 96 0 10) := fun M => p_co (n := 10) (by decide +kernel) (by decide +kernel) M
  have g2 : ∀ M, e_gf 386 [26] M = some 29 := fun M => p_g 386 26 29 M (by decide +kernel)
  have h2 : ∀ M, e_gf 386 [94] M = some 97 := fun M => p_g 386 94 97 M (by decide +kernel)
  have c2 : ∀ M, E_C 148 [29, 97] M = some (0, e_cpm M 29 0 97 0 10) := fun M => p_co (n := 10) (by decide +kernel) (by decide +kernel) M
  have g3 : ∀ M, e_gf 387 [26] M = some 30 := fun M => p_g 387 26 30 M (by decide +kernel)
  have h3 : ∀ M, e_gf 387 [94] M = some 98 := fun M => p_g 387 94 98 M (by decide +kernel)
  have c3 : ∀ M, E_C 148 [30, 98] M = some (0, e_cpm M 30 0 98 0 12) := fun M => p_co (n := 12) (by decide +kernel) (by decide +kernel) M
  have g4 : ∀ M, e_gf 388 [26] M = some 31 := fun M => p_g 388 26 31 M (by decide +kernel)
  have h4 : ∀ M, e_gf 388 [94] M = some 99 := fun M => p_g 388 94 99 M (by decide +kernel)
  have c4 : ∀ M, E_C 148 [31, 99] M = some (0, e_cpm M 31 0 99 0 12) := fun M => p_co (n := 12) (by decide +kernel) (by decide +kernel) M
  have g5 : ∀ M, e_gf 389 [26] M = some 32 := fun M => p_g 389 26 32 M (by decide +kernel)
  have h5 : ∀ M, e_gf 389 [94] M = some 100 := fun M => p_g 389 94 100 M (by decide +kernel)
  have c5 : ∀ M, E_C 148 [32, 100] M = some (0, e_cpm M 32 0 100 0 120) := fun M => p_co (n := 120) (by decide +kernel) (by decide +kernel) M
  have f6 : ∀ M, e_gf 390 [26] M = some (M 26 6) := fun M => c_gf (by decide +kernel) (by decide +kernel)
  have w6 : ∀ v M, e_pf 390 [94, v] M = some (e_up M 94 6 v) := fun v M => c_pf (by decide +kernel) (by decide +kernel)
  have f7 : ∀ M, e_gf 391 [26] M = some (M 26 7) := fun M => c_gf (by decide +kernel) (by decide +kernel)
  have w7 : ∀ v M, e_pf 391 [94, v] M = some (e_up M 94 7 v) := fun v M => c_pf (by decide +kernel) (by decide +kernel)
  refine ⟨(e_up (e_up (e_cpm (e_cpm (e_cpm (e_cpm (e_cpm (e_cpm M 27 0 95 0 10) 28 0 96 0 10) 29 0 97 0 10) 30 0 98 0 12) 31 0 99 0 12) 32 0 100 0 120) 94 6 ((e_cpm (e_cpm (e_cpm (e_cpm (e_cpm (e_cpm M 27 0 95 0 10) 28 0 96 0 10) 29 0 97 0 10) 30 0 98 0 12) 31 0 99 0 12) 32 0 100 0 120) 26 6)) 94 7 ((e_up (e_cpm (e_cpm (e_cpm (e_cpm (e_cpm (e_cpm M 27 0 95 0 10) 28 0 96 0 10) 29 0 97 0 10) 30 0 98 0 12) 31 0 99 0 12) 32 0 100 0 120) 94 6 ((e_cpm (e_cpm (e_cpm (e_cpm (e_cpm (e_cpm M 27 0 95 0 10) 28 0 96 0 10) 29 0 97 0 10) 30 0 98 0 12) 31 0 99 0 12) 32 0 100 0 120) 26 6)) 26 7)), ?_, (p_C_cell (so := 0) (to := 68) (id := 26) (j := 7) hd (by decide) (p_C_cell (so := 0) (to := 68) (id := 26) (j := 6) hd (by decide) (p_C_row (so := 0) (to := 68) (id := 32) (n := 120) hd (by decide) (by decide) (p_C_row (so := 0) (to := 68) (id := 31) (n := 12) hd (by decide) (by decide) (p_C_row (so := 0) (to := 68) (id := 30) (n := 12) hd (by decide) (by decide) (p_C_row (so := 0) (to := 68) (id := 29) (n := 10) hd (by decide) (by decide) (p_C_row (so := 0) (to := 68) (id := 28) (n := 10) hd (by decide) (by decide) (p_C_row (so := 0) (to := 68) (id := 27) (n := 10) hd (by decide) (by decide) p_C_0))))))))⟩
  rw [r_ent (show e_rok 72 [94, 26] = true by decide +kernel)]
  show e_tv E_C (E_V 72) e_t72_0 [94, 26] M = _
  unfold e_t72_0
  simp [e_tv, e_ev, e_sv, e_b1, e_b2, x_o1, x_o2, g0, h0, c0, g1, h1, c1, g2, h2, c2, g3, h3, c3, g4, h4, c4, g5, h5, c5, f6, w6, f7, w7]
