theorem p_72r (M : EM) : ∃ M1, E_C 72 [26, 94] M = some (0, M1) ∧ p_C 68 0 p_D72 M M1 := by
  have hd : p_dir 68 0 := by unfold p_dir; decide
  have g0 : ∀ M, e_gf 384 [94] M = some 95 := fun M => p_g 384 94 95 M (by decide +kernel)
  have h0 : ∀ M, e_gf 384 [26] M = some 27 := fun M => p_g 384 26 27 M (by decide +kernel)
  have c0 : ∀ M, E_C 148 [95, 27] M = some (0, e_cpm M 95 0 27 0 10) := fun M => p_co (n := 10) (by decide +kernel) (by decide +kernel) M
  have g1 : ∀ M, e_gf 385 [94] M = some 96 := fun M => p_g 385 94 96 M (by decide +kernel)
  have h1 : ∀ M, e_gf 385 [26] M = some 28 := fun M => p_g 385 26 28 M (by decide +kernel)
  have c1 : ∀ M, E_C 148 [96, 28] M = some (0, e_cpm M 96 0 28 0 10) := fun M => p_co (n := 10) (by decide +kernel) (by decide +kernel) M
  have g2 : ∀ M, e_gf 386 [94] M = some 97 := fun M => p_g 386 94 97 M (by decide +kernel)
  have h2 : ∀ M, e_gf 386 [26] M = some 29 := fun M => p_g 386 26 29 M (by decide +kernel)
  have c2 : ∀ M, E_C 148 [97, 29] M = some (0, e_cpm M 97 0 29 0 10) := fun M => p_co (n := 10) (by decide +kernel) (by decide +kernel) M
  have g3 : ∀ M, e_gf 387 [94] M = some 98 := fun M => p_g 387 94 98 M (by decide +kernel)
  have h3 : ∀ M, e_gf 387 [26] M = some 30 := fun M => p_g 387 26 30 M (by decide +kernel)
  have c3 : ∀ M, E_C 148 [98, 30] M = some (0, e_cpm M 98 0 30 0 12) := fun M => p_co (n := 12) (by decide +kernel) (by decide +kernel) M
  have g4 : ∀ M, e_gf 388 [94] M = some 99 := fun M => p_g 388 94 99 M (by decide +kernel)
  have h4 : ∀ M, e_gf 388 [26] M = some 31 := fun M => p_g 388 26 31 M (by decide +kernel)
  have c4 : ∀ M, E_C 148 [99, 31] M = some (0, e_cpm M 99 0 31 0 12) := fun M => p_co (n := 12) (by decide +kernel) (by decide +kernel) M
  have g5 : ∀ M, e_gf 389 [94] M = some 100 := fun M => p_g 389 94 100 M (by decide +kernel)
  have h5 : ∀ M, e_gf 389 [26] M = some 32 := fun M => p_g 389 26 32 M (by decide +kernel)
  have c5 : ∀ M, E_C 148 [100, 32] M = some (0, e_cpm M 100 0 32 0 120) := fun M => p_co (n := 120) (by decide +kernel) (by decide +kernel) M
  have f6 : ∀ M, e_gf 390 [94] M = some (M 94 6) := fun M => c_gf (by decide +kernel) (by decide +kernel)
  have w6 : ∀ v M, e_pf 390 [26, v] M = some (e_up M 26 6 v) := fun v M => c_pf (by decide +kernel) (by decide +kernel)
  have f7 : ∀ M, e_gf 391 [94] M = some (M 94 7) := fun M => c_gf (by decide +kernel) (by decide +kernel)
  have w7 : ∀ v M, e_pf 391 [26, v] M = some (e_up M 26 7 v) := fun v M => c_pf (by decide +kernel) (by decide +kernel)
  refine ⟨(e_up (e_up (e_cpm (e_cpm (e_cpm (e_cpm (e_cpm (e_cpm M 95 0 27 0 10) 96 0 28 0 10) 97 0 29 0 10) 98 0 30 0 12) 99 0 31 0 12) 100 0 32 0 120) 26 6 ((e_cpm (e_cpm (e_cpm (e_cpm (e_cpm (e_cpm M 95 0 27 0 10) 96 0 28 0 10) 97 0 29 0 10) 98 0 30 0 12) 99 0 31 0 12) 100 0 32 0 120) 94 6)) 26 7 ((e_up (e_cpm (e_cpm (e_cpm (e_cpm (e_cpm (e_cpm M 95 0 27 0 10) 96 0 28 0 10) 97 0 29 0 10) 98 0 30 0 12) 99 0 31 0 12) 100 0 32 0 120) 26 6 ((e_cpm (e_cpm (e_cpm (e_cpm (e_cpm (e_cpm M 95 0 27 0 10) 96 0 28 0 10) 97 0 29 0 10) 98 0 30 0 12) 99 0 31 0 12) 100 0 32 0 120) 94 6)) 94 7)), ?_, (p_C_cell (so := 68) (to := 0) (id := 26) (j := 7) hd (by decide) (p_C_cell (so := 68) (to := 0) (id := 26) (j := 6) hd (by decide) (p_C_row (so := 68) (to := 0) (id := 32) (n := 120) hd (by decide) (by decide) (p_C_row (so := 68) (to := 0) (id := 31) (n := 12) hd (by decide) (by decide) (p_C_row (so := 68) (to := 0) (id := 30) (n := 12) hd (by decide) (by decide) (p_C_row (so := 68) (to := 0) (id := 29) (n := 10) hd (by decide) (by decide) (p_C_row (so := 68) (to := 0) (id := 28) (n := 10) hd (by decide) (by decide) (p_C_row (so := 68) (to := 0) (id := 27) (n := 10) hd (by decide) (by decide) p_C_0))))))))⟩
  rw [r_ent (show e_rok 72 [26, 94] = true by decide +kernel)]
  show e_tv E_C (E_V 72) e_t72_0 [26, 94] M = _
  unfold e_t72_0
  simp [e_tv, e_ev, e_sv, e_b1, e_b2, x_o1, x_o2, g0, h0, c0, g1, h1, c1, g2, h2, c2, g3, h3, c3, g4, h4, c4, g5, h5, c5, f6, w6, f7, w7]
def p_D93 : AW := (33, 2, 2) :: (35, 0, 11) :: (34, 0, 11) :: []
theorem p_93i (M : EM) : ∃ M1, E_C 93 [101, 33] M = some (0, M1) ∧ p_C 0 68 p_D93 M M1 := by
  have hd : p_dir 0 68 := by unfold p_dir; decide
  have g0 : ∀ M, e_gf 576 [33] M = some 34 := fun M => p_g 576 33 34 M (by decide +kernel)
  have h0 : ∀ M, e_gf 576 [101] M = some 102 := fun M => p_g 576 101 102 M (by decide +kernel)
  have c0 : ∀ M, E_C 148 [34, 102] M = some (0, e_cpm M 34 0 102 0 12) := fun M => p_co (n := 12) (by decide +kernel) (by decide +kernel) M
  have g1 : ∀ M, e_gf 577 [33] M = some 35 := fun M => p_g 577 33 35 M (by decide +kernel)
  have h1 : ∀ M, e_gf 577 [101] M = some 103 := fun M => p_g 577 101 103 M (by decide +kernel)
  have c1 : ∀ M, E_C 148 [35, 103] M = some (0, e_cpm M 35 0 103 0 12) := fun M => p_co (n := 12) (by decide +kernel) (by decide +kernel) M
  have f2 : ∀ M, e_gf 578 [33] M = some (M 33 2) := fun M => c_gf (by decide +kernel) (by decide +kernel)
  have w2 : ∀ v M, e_pf 578 [101, v] M = some (e_up M 101 2 v) := fun v M => c_pf (by decide +kernel) (by decide +kernel)
  refine ⟨(e_up (e_cpm (e_cpm M 34 0 102 0 12) 35 0 103 0 12) 101 2 ((e_cpm (e_cpm M 34 0 102 0 12) 35 0 103 0 12) 33 2)), ?_, (p_C_cell (so := 0) (to := 68) (id := 33) (j := 2) hd (by decide) (p_C_row (so := 0) (to := 68) (id := 35) (n := 12) hd (by decide) (by decide) (p_C_row (so := 0) (to := 68) (id := 34) (n := 12) hd (by decide) (by decide) p_C_0)))⟩
  rw [r_ent (show e_rok 93 [101, 33] = true by decide +kernel)]
  show e_tv E_C (E_V 93) e_t93_0 [101, 33] M = _
  unfold e_t93_0
  simp [e_tv, e_ev, e_sv, e_b1, e_b2, x_o1, x_o2, g0, h0, c0, g1, h1, c1, f2, w2]
theorem p_93r (M : EM) : ∃ M1, E_C 93 [33, 101] M = some (0, M1) ∧ p_C 68 0 p_D93 M M1 := by
  have hd : p_dir 68 0 := by unfold p_dir; decide
  have g0 : ∀ M, e_gf 576 [101] M = some 102 := fun M => p_g 576 101 102 M (by decide +kernel)
  have h0 : ∀ M, e_gf 576 [33] M = some 34 := fun M => p_g 576 33 34 M (by decide +kernel)
  have c0 : ∀ M, E_C 148 [102, 34] M = some (0, e_cpm M 102 0 34 0 12) := fun M => p_co (n := 12) (by decide +kernel) (by decide +kernel) M
  have g1 : ∀ M, e_gf 577 [101] M = some 103 := fun M => p_g 577 101 103 M (by decide +kernel)
  have h1 : ∀ M, e_gf 577 [33] M = some 35 := fun M => p_g 577 33 35 M (by decide +kernel)
  have c1 : ∀ M, E_C 148 [103, 35] M = some (0, e_cpm M 103 0 35 0 12) := fun M => p_co (n := 12) (by decide +kernel) (by decide +kernel) M
  have f2 : ∀ M, e_gf 578 [101] M = some (M 101 2) := fun M => c_gf (by decide +kernel) (by decide +kernel)
  have w2 : ∀ v M, e_pf 578 [33, v] M = some (e_up M 33 2 v) := fun v M => c_pf (by decide +kernel) (by decide +kernel)
  refine ⟨(e_up (e_cpm (e_cpm M 102 0 34 0 12) 103 0 35 0 12) 33 2 ((e_cpm (e_cpm M 102 0 34 0 12) 103 0 35 0 12) 101 2)), ?_, (p_C_cell (so := 68) (to := 0) (id := 33) (j := 2) hd (by decide) (p_C_row (so := 68) (to := 0) (id := 35) (n := 12) hd (by decide) (by decide) (p_C_row (so := 68) (to := 0) (id := 34) (n := 12) hd (by decide) (by decide) p_C_0)))⟩
  rw [r_ent (show e_rok 93 [33, 101] = true by decide +kernel)]
  show e_tv E_C (E_V 93) e_t93_0 [33, 101] M = _
  unfold e_t93_0
  simp [e_tv, e_ev, e_sv, e_b1, e_b2, x_o1, x_o2, g0, h0, c0, g1, h1, c1, f2, w2]

