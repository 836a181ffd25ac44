theorem p_705 (M : EM) : e_gf 705 [8] M = some 77 := p_g 705 8 77 M (by decide +kernel)
theorem p_706 (M : EM) : e_gf 706 [8] M = some (M 8 2) := c_gf c_this (by decide +kernel)
theorem p_p706 (v : Int) (M : EM) : e_pf 706 [8, v] M = some (e_up M 8 2 v) := c_pf c_this (by decide +kernel)
theorem p_192 (M : EM) : e_gf 192 [9] M = some 10 := p_g 192 9 10 M (by decide +kernel)
theorem p_256 (M : EM) : e_gf 256 [10] M = some (M 10 0) := c_gf (by decide +kernel) (by decide +kernel)
theorem p_image (M : EM) : ∃ M1, E_C 136 [8] M = some (M 10 0, e_up M1 8 2 1) ∧ p_C 0 68 p_D48 M M1 := by
  obtain ⟨M1, k, c⟩ := p_48i M
  have e : M1 10 0 = M 10 0 := c.2.1 10 0 (fun w hw hc => by have := c.2.2 w hw; omega)
  have e2 : (e_up M1 8 2 1) 10 0 = M 10 0 := (c_up_n (fun h => absurd h.1 (by decide))).trans e
  refine ⟨M1, ?_, c⟩
  rw [r_ent (show e_rok 136 [8] = true from decide_eq_true c_this)]
  show e_tv E_C (E_V 136) e_t136_0 [8] M = _
  unfold e_t136_0
  simp [e_tv, e_ev, e_sv, e_b1, e_b2, x_o1, x_o2, p_704, p_705, p_p706, p_192, p_256, k, e2]
theorem p_restore {M : EM} (h : M 8 2 ≠ 0) : ∃ M1, E_C 137 [8] M = some (M1 10 0, M1) ∧ p_C 68 0 p_D48 M M1 := by
  obtain ⟨M1, k, c⟩ := p_48r M
  refine ⟨M1, ?_, c⟩
  rw [r_ent (show e_rok 137 [8] = true from decide_eq_true c_this)]
  show e_tv E_C (E_V 137) e_t137_0 [8] M = _
  unfold e_t137_0
  simp [e_tv, e_ev, e_sv, e_b1, e_b2, x_o1, x_o2, p_704, p_705, p_706, p_192, p_256, h, k]
theorem p_restore0 {M : EM} (h : M 8 2 = 0) : E_C 137 [8] M = some (-3, M) := by
  rw [r_ent (show e_rok 137 [8] = true from decide_eq_true c_this)]
  show e_tv E_C (E_V 137) e_t137_0 [8] M = _
  unfold e_t137_0
  simp [e_tv, e_ev, e_sv, e_b1, e_b2, x_o1, x_o2, p_706, h]


