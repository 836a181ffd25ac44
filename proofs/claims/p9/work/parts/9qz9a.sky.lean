/-! sky: what the class leaves -/
def h_lv (s : Int) : Int := if s = 0 then -128 else if s = 1 then -32768 else -2147483648
theorem h_89 {h : Int} (hh : h ∈ a_SH) (M : EM) : E_C 89 [h] M = some (h_lv (M h.toNat 4), M) := by
  obtain ⟨s1, -⟩ := w_sh hh
  have g : e_gf 516 [h] M = some (M h.toNat 4) := c_gf s1 (by decide +kernel)
  rw [r_ent (show e_rok 89 [h] = true from decide_eq_true s1)]
  show e_tv E_C (E_V 89) e_t89_0 [h] M = _
  unfold e_t89_0
  generalize M h.toNat 4 = s at g
  unfold h_lv
  by_cases c0 : s = 0
  · rw [if_pos c0]
    simp [e_tv, e_ev, e_sv, e_b1, e_b2, x_o1, x_o2, g, c0]
  · rw [if_neg c0]
    by_cases c1 : s = 1
    · rw [if_pos c1]
      simp [e_tv, e_ev, e_sv, e_b1, e_b2, x_o1, x_o2, g, c1]
    · rw [if_neg c1]
      simp [e_tv, e_ev, e_sv, e_b1, e_b2, x_o1, x_o2, g, c0, c1]
theorem h_389 (M : EM) : e_gf 389 [26] M = some 32 := p_g 389 26 32 M (by decide +kernel)
theorem h_p390 (v : Int) (M : EM) : e_pf 390 [26, v] M = some (e_up M 26 6 v) := c_pf (by decide +kernel) (by decide +kernel)
theorem h_p391 (v : Int) (M : EM) : e_pf 391 [26, v] M = some (e_up M 26 7 v) := c_pf (by decide +kernel) (by decide +kernel)
def h_skM (M : EM) (h : Int) : EM := e_up (e_up (e_cpm M (h + 1).toNat 0 32 0 120) 26 6 (M h.toNat 5)) 26 7 (h_lv (M h.toNat 4))
theorem h_76 {h : Int} (hh : h ∈ a_SH) (M : EM) : E_C 76 [26, h] M = some (0, h_skM M h) := by
  obtain ⟨s1, s2, s3, s4, s5, s6, s7⟩ := w_sh hh
  have g6 : ∀ M, e_gf 518 [h] M = some (h + 1) := fun M => (c_gr s1 (by decide +kernel)).trans (congrArg some s5)
  have g5 : ∀ M, e_gf 517 [h] M = some (M h.toNat 5) := fun M => c_gf s1 (by decide +kernel)
  have co : E_C 148 [h + 1, 32] M = some (0, e_cpm M (h + 1).toNat 0 32 0 120) := p_co ⟨s2, s3, s4⟩ (by decide +kernel) M
  have f1 : ∀ k, e_cpm M (h + 1).toNat 0 32 0 120 h.toNat k = M h.toNat k := fun k => if_neg (by omega)
  have f2 : ∀ k v, e_up (e_cpm M (h + 1).toNat 0 32 0 120) 26 6 v h.toNat k = M h.toNat k := fun k v => (c_up_n (by omega)).trans (f1 k)
  have l := h_89 hh (e_up (e_cpm M (h + 1).toNat 0 32 0 120) 26 6 (M h.toNat 5))
  rw [f2] at l
  have g5' := g5 (e_cpm M (h + 1).toNat 0 32 0 120)
  rw [f1] at g5'
  rw [r_ent (show e_rok 76 [26, h] = true from decide_eq_true (show e_isO 6 26 by decide +kernel))]
  show e_tv E_C (E_V 76) e_t76_0 [26, h] M = _
  unfold e_t76_0 h_skM
  simp [e_tv, e_ev, e_sv, e_b1, e_b2, x_o1, x_o2, g6, h_389, co, g5', h_p390, l, h_p391]
