theorem r_isShaded {x y h : Int} {M : EM} (hM : a_M M) (hh : 0 ≤ h ∧ h ≤ 11) : ∃ r, E_C 222 [192, x, y, h] M = some (r, M) ∧ (r = 0 ∨ r = 1) := by
  have w4 : e_w (2 * h) = 2 * h := a_w_id (by omega) (by omega)
  have w5 : e_w (1150 + 2 * h) = 1150 + 2 * h := a_w_id (by omega) (by omega)
  have l : e_op 60 [193, 1150 + 2 * h] M = some (r_G M (1150 + 2 * h)) := r_rd (by omega) (by omega)
  have H := fun x4 x5 x6 => r_shade_out (x := x) (y := y) (h := h) (x4 := x4) (x5 := x5) (x6 := x6) hM hh 10 0 0 0 0 (by decide) (by decide) (by decide)
  generalize r_G M (1150 + 2 * h) = v at l
  suffices h : ∃ x5 x6, E_C 222 [192, x, y, h] M = E_V 222 78 [192, x, y, h, v, x5, x6, 0, 0, 0, 0] M by
    obtain ⟨x5, x6, e⟩ := h
    rw [e]
    exact H _ _ _
  rw [r_ent (show e_rok 222 [192, x, y, h] = true from decide_eq_true r_ref)]
  show ∃ x5 x6, e_tv E_C (E_V 222) e_t222_0 [192, x, y, h, 0, 0, 0, 0, 0, 0, 0] M = _
  unfold e_t222_0
  by_cases c1 : v = 2 <;> by_cases c2 : v = 6 <;> rcases x_lt v 2 with c3 | c3 <;> by_cases c4 : v = 7 <;> by_cases c5 : v.tmod 4 = 0 <;> rcases x_lt v 4 with c6 | c6 <;> first
    | (exfalso; omega)
    | exact ⟨_, _, by simp [e_tv, e_ev, e_sv, e_b1, e_b2, x_o1, x_o2, r_O0, w4, w5, l, c1, c2, c3, c4, c5, c6]; rfl⟩

