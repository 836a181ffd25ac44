/-! lit, hour, day: the pairs -/
theorem lc_x_le {f : Int → Int → Bool} {y0 : Int} {ny : Nat} : ∀ n x, lc_x f y0 ny n x ≤ (n : Int) * ny := by
  intro n
  induction n with
  | zero => intro x; show (0 : Int) ≤ (0 : Int) * ny; rw [Int.zero_mul]; exact Int.le_refl _
  | succ n ih =>
    intro x
    have a := ih (x + 1)
    have b := lc_y_bd (f := f x) ny y0
    show lc_y (f x) ny y0 + lc_x f y0 ny n (x + 1) ≤ ((n + 1 : Nat) : Int) * ny
    rw [Int.natCast_succ, Int.add_mul, Int.one_mul]
    omega
theorem ax_T_bd {g : Int → Int} {h : Nat} {q : Int} (hl : r_lies g q) : 0 ≤ ax_T g h q ∧ ax_T g h q ≤ 100 := by
  unfold ax_T
  by_cases c0 : g (28 * q + 20) = 0
  · rw [if_pos c0]; decide
  · rw [if_neg c0]
    obtain ⟨l1, l2, l3, l4, l5, l6⟩ := hl.resolve_left c0
    generalize g (28 * q + 21) = x0 at *
    generalize g (28 * q + 22) = y0 at *
    generalize g (28 * q + 23) = xb at *
    generalize g (28 * q + 24) = yb at *
    obtain ⟨ny, hny⟩ : ∃ ny : Nat, yb - y0 + 1 = ny := ⟨(yb - y0 + 1).toNat, by omega⟩
    obtain ⟨nx, hnx⟩ : ∃ nx : Nat, xb - x0 + 1 = nx := ⟨(xb - x0 + 1).toNat, by omega⟩
    rw [hny, hnx, Int.toNat_natCast, Int.toNat_natCast]
    have a := lc_x_bd (f := fun x y => sd g h x y 10) (y0 := y0) (ny := ny) (by omega) nx x0
    have b := lc_x_le (f := fun x y => sd g h x y 10) (y0 := y0) (ny := ny) nx x0
    have c : (1 : Int) ≤ (nx : Int) * ny := by
      have : (1 : Int) * 1 ≤ (nx : Int) * ny := Int.mul_le_mul (by omega) (by omega) (by decide) (by omega)
      omega
    exact lt_q a.1 b c
section DY
variable {M : EM} {g : Int → Int}
/-- the reference: one column -/
theorem dy_59 {q hh x3 yb : Int} {h : Nat} (hF : h_F (r_G M)) (hh' : hh = h) (h12 : h < 12) (h3 : x3 = 28 * q + 20) (hq : 0 ≤ q ∧ q < 40) (hyb : r_G M (28 * q + 24) = yb) (hy : -1 ≤ yb ∧ yb ≤ 11) (x6 : Int) (hx6 : 0 ≤ x6 ∧ x6 ≤ 100) : ∀ (d : Nat) (x4 x5 x7 : Int), 0 ≤ x7 → x7 + d = yb + 1 → 0 ≤ x4 → x4 + d ≤ 1000 → 0 ≤ x5 → x5 + d ≤ 1000 → E_V 223 59 [192, q, hh, x3, x4, x5, x6, x7] M = E_V 223 36 [192, q, hh, x3, x4 + d, x5 + lc_y (fun y => sd (r_G M) h x6 y 10) d x7, x6 + 1, yb + 1] M := by
  have w0 : e_w (x3 + 4) = x3 + 4 := a_w_id (by omega) (by omega)
  have l0 : e_op 60 [193, x3 + 4] M = some yb := (r_rd (by omega) (by omega)).trans (by rw [h3, show 28 * q + 20 + 4 = 28 * q + 24 by omega, hyb])
  intro d
  induction d with
  | zero =>
    intro x4 x5 x7 h7 hd h4 h44 h5 h55
    have qq : ¬ (x7 ≤ yb) := by omega
    have e7 : x7 = yb + 1 := by omega
    have w1 : e_w (x6 + 1) = x6 + 1 := a_w_id (by omega) (by omega)
    show _ = E_V 223 36 [192, q, hh, x3, x4 + 0, x5 + 0, x6 + 1, yb + 1] M
    rw [Int.add_zero, Int.add_zero, ← e7]
    clear hF
    rw [E_V_eq]
    show e_tv E_C (E_V 223) e_t223_59 [192, q, hh, x3, x4, x5, x6, x7] M = _
    unfold e_t223_59
    simp [zq_a, zq_b, zq_c, zq_d, zq_e, zq_f, zq_g, zq_h, zq_i, zq_j, zq_k, zq_l, zq_m, zq_n, zq_o, zq_p, zq_q, zq_r, zq_s, zq_t, zq_u, zq_v, zq_w, zq_x, zq_y, zq_z, zq_A, zq_B, zq_C, zq_D, zq_E, zq_F, zq_G, zq_H, zq_I, zq_J, zq_K, zq_L, ↓zq_M, ↓zq_N, ↓zq_O, ↓zq_P, ↓zq_Q, ↓zq_R, zq_S, zq_T, zq_U, zq_V, zq_W, zq_X, zq_Y, zq_Z, zq_0, zq_1, zq_2, zq_3, zq_4, zq_5, ↓zq_6, ↓zq_7, ↓zq_8, ↓zq_9, ↓zq_aa, zq_ab, zq_ac, zq_ad, zq_ae, zq_af, zq_ag, ↓zq_ah, ↓zq_ai, ↓zq_aj, zq_ak, ↓zq_al, ↓zq_am, e_b1, e_b2, x_o1, x_o2, r_O0, w0, l0, qq, w1]
  | succ d ih =>
    intro x4 x5 x7 h7 hd h4 h44 h5 h55
    have qq : x7 ≤ yb := by omega
    have t := lt_222 (M := M) (x := x6) (y := x7) hF hh' h12
    have w3 : e_w (x4 + 1) = x4 + 1 := a_w_id (by omega) (by omega)
    have w4 : e_w (x5 + 1) = x5 + 1 := a_w_id (by omega) (by omega)
    have w5 : e_w x5 = x5 := a_w_id (by omega) (by omega)
    have w6 : e_w (x7 + 1) = x7 + 1 := a_w_id (by omega) (by omega)
    show _ = E_V 223 36 [192, q, hh, x3, x4 + ((d + 1 : Nat) : Int), x5 + ((if sd (r_G M) h x6 x7 10 = true then 0 else 1) + lc_y (fun y => sd (r_G M) h x6 y 10) d (x7 + 1)), x6 + 1, yb + 1] M
    by_cases c : sd (r_G M) h x6 x7 10 = true
    · have k := ih (x4 + 1) x5 (x7 + 1) (by omega) (by omega) (by omega) (by omega) (by omega) (by omega)
      rw [if_pos c] at t
      rw [if_pos c, Int.zero_add, show x4 + ((d + 1 : Nat) : Int) = x4 + 1 + (d : Int) by omega, ← k]
      clear ih k hF
      rw [E_V_eq]
      show e_tv E_C (E_V 223) e_t223_59 [192, q, hh, x3, x4, x5, x6, x7] M = _
      unfold e_t223_59
      simp [zq_a, zq_b, zq_c, zq_d, zq_e, zq_f, zq_g, zq_h, zq_i, zq_j, zq_k, zq_l, zq_m, zq_n, zq_o, zq_p, zq_q, zq_r, zq_s, zq_t, zq_u, zq_v, zq_w, zq_x, zq_y, zq_z, zq_A, zq_B, zq_C, zq_D, zq_E, zq_F, zq_G, zq_H, zq_I, zq_J, zq_K, zq_L, ↓zq_M, ↓zq_N, ↓zq_O, ↓zq_P, ↓zq_Q, ↓zq_R, zq_S, zq_T, zq_U, zq_V, zq_W, zq_X, zq_Y, zq_Z, zq_0, zq_1, zq_2, zq_3, zq_4, zq_5, ↓zq_6, ↓zq_7, ↓zq_8, ↓zq_9, ↓zq_aa, zq_ab, zq_ac, zq_ad, zq_ae, zq_af, zq_ag, ↓zq_ah, ↓zq_ai, ↓zq_aj, zq_ak, ↓zq_al, ↓zq_am, e_b1, e_b2, x_o1, x_o2, r_O0, w0, l0, qq, t, w3, w5, w6]
    · have k := ih (x4 + 1) (x5 + 1) (x7 + 1) (by omega) (by omega) (by omega) (by omega) (by omega) (by omega)
      rw [if_neg c] at t
      rw [if_neg c, show x4 + ((d + 1 : Nat) : Int) = x4 + 1 + (d : Int) by omega, ← Int.add_assoc, ← k]
      clear ih k hF
      rw [E_V_eq]
      show e_tv E_C (E_V 223) e_t223_59 [192, q, hh, x3, x4, x5, x6, x7] M = _
      unfold e_t223_59
      simp [zq_a, zq_b, zq_c, zq_d, zq_e, zq_f, zq_g, zq_h, zq_i, zq_j, zq_k, zq_l, zq_m, zq_n, zq_o, zq_p, zq_q, zq_r, zq_s, zq_t, zq_u, zq_v, zq_w, zq_x, zq_y, zq_z, zq_A, zq_B, zq_C, zq_D, zq_E, zq_F, zq_G, zq_H, zq_I, zq_J, zq_K, zq_L, ↓zq_M, ↓zq_N, ↓zq_O, ↓zq_P, ↓zq_Q, ↓zq_R, zq_S, zq_T, zq_U, zq_V, zq_W, zq_X, zq_Y, zq_Z, zq_0, zq_1, zq_2, zq_3, zq_4, zq_5, ↓zq_6, ↓zq_7, ↓zq_8, ↓zq_9, ↓zq_aa, zq_ab, zq_ac, zq_ad, zq_ae, zq_af, zq_ag, ↓zq_ah, ↓zq_ai, ↓zq_aj, zq_ak, ↓zq_al, ↓zq_am, e_b1, e_b2, x_o1, x_o2, r_O0, w0, l0, qq, t, w3, w4, w6]
theorem dy_36 {q hh x3 y0 yb xb : Int} {h ny : Nat} (hF : h_F (r_G M)) (hh' : hh = h) (h12 : h < 12) (h3 : x3 = 28 * q + 20) (hq : 0 ≤ q ∧ q < 40) (g22 : r_G M (28 * q + 22) = y0) (g24 : r_G M (28 * q + 24) = yb) (g23 : r_G M (28 * q + 23) = xb) (hy0 : 0 ≤ y0) (hy12 : yb ≤ 11) (hny : y0 + ny = yb + 1) (hn1 : 1 ≤ ny) (hxb : xb ≤ 19) : ∀ (d : Nat) (x4 x5 x6 x7 : Int), 0 ≤ x6 → x6 + d = xb + 1 → 0 ≤ x4 → x4 + 12 * d ≤ 900 → 0 ≤ x5 → x5 + 12 * d ≤ 900 → (d = 0 → 1 ≤ x4) → E_V 223 36 [192, q, hh, x3, x4, x5, x6, x7] M = some ((100 * (x5 + lc_x (fun x y => sd (r_G M) h x y 10) y0 ny d x6)).tdiv (x4 + d * ny), M) := by
  have w0 : e_w (x3 + 3) = x3 + 3 := a_w_id (by omega) (by omega)
  have l0 : e_op 60 [193, x3 + 3] M = some xb := (r_rd (by omega) (by omega)).trans (by rw [h3, show 28 * q + 20 + 3 = 28 * q + 23 by omega, g23])
  have w1 : e_w (x3 + 2) = x3 + 2 := a_w_id (by omega) (by omega)
  have l1 : e_op 60 [193, x3 + 2] M = some y0 := (r_rd (by omega) (by omega)).trans (by rw [h3, show 28 * q + 20 + 2 = 28 * q + 22 by omega, g22])
  intro d
  induction d with
  | zero =>
    intro x4 x5 x6 x7 h6 hd p5 p55 p6 p66 p1
    have qq : ¬ (x6 ≤ xb) := by omega
    have z4 : ¬ x4 = 0 := by have := p1 rfl; omega
    have e : (100 * (x5 + lc_x (fun x y => sd (r_G M) h x y 10) y0 ny 0 x6)).tdiv (x4 + ((0 : Nat) : Int) * ny) = (100 * x5).tdiv x4 := by
      show (100 * (x5 + 0)).tdiv (x4 + (0 : Int) * ny) = _
      rw [Int.add_zero, Int.zero_mul, Int.add_zero]
    rw [e]
    have w2 : e_w (100 * x5) = 100 * x5 := a_w_id (by omega) (by omega)
    have b : 0 ≤ (100 * x5).tdiv x4 ∧ (100 * x5).tdiv x4 ≤ 100 * x5 := by
      rw [Int.tdiv_eq_ediv_of_nonneg (by omega)]
      exact ⟨Int.ediv_nonneg (by omega) p5, Int.ediv_le_self _ (by omega)⟩
    have w3 : e_w ((100 * x5).tdiv x4) = (100 * x5).tdiv x4 := a_w_id (by omega) (by omega)
    clear hF e
    rw [E_V_eq]
    show e_tv E_C (E_V 223) e_t223_36 [192, q, hh, x3, x4, x5, x6, x7] M = _
    unfold e_t223_36
    simp [zq_a, zq_b, zq_c, zq_d, zq_e, zq_f, zq_g, zq_h, zq_i, zq_j, zq_k, zq_l, zq_m, zq_n, zq_o, zq_p, zq_q, zq_r, zq_s, zq_t, zq_u, zq_v, zq_w, zq_x, zq_y, zq_z, zq_A, zq_B, zq_C, zq_D, zq_E, zq_F, zq_G, zq_H, zq_I, zq_J, zq_K, zq_L, ↓zq_M, ↓zq_N, ↓zq_O, ↓zq_P, ↓zq_Q, ↓zq_R, zq_S, zq_T, zq_U, zq_V, zq_W, zq_X, zq_Y, zq_Z, zq_0, zq_1, zq_2, zq_3, zq_4, zq_5, ↓zq_6, ↓zq_7, ↓zq_8, ↓zq_9, ↓zq_aa, zq_ab, zq_ac, zq_ad, zq_ae, zq_af, zq_ag, ↓zq_ah, ↓zq_ai, ↓zq_aj, zq_ak, ↓zq_al, ↓zq_am, e_b1, e_b2, x_o1, x_o2, r_O0, w0, l0, qq, z4, w2, w3]
  | succ d ih =>
    intro x4 x5 x6 x7 h6 hd p5 p55 p6 p66 p1
    have qq : x6 ≤ xb := by omega
    have k1 := dy_59 (M := M) (x3 := x3) hF hh' h12 h3 hq g24 ⟨by omega, hy12⟩ x6 ⟨h6, by omega⟩ ny x4 x5 y0 hy0 (by omega) p5 (by omega) p6 (by omega)
    have cy := lc_y_bd (f := fun y => sd (r_G M) h x6 y 10) ny y0
    have k2 := ih (x4 + ny) (x5 + lc_y (fun y => sd (r_G M) h x6 y 10) ny y0) (x6 + 1) (yb + 1) (by omega) (by omega) (by omega) (by omega) (by omega) (by omega) (fun _ => by omega)
    have e1 : x4 + (ny : Int) + (d : Int) * (ny : Int) = x4 + ((d + 1 : Nat) : Int) * (ny : Int) := by
      rw [Int.natCast_succ, Int.add_mul, Int.one_mul]
      omega
    have e2 : x5 + lc_y (fun y => sd (r_G M) h x6 y 10) ny y0 + lc_x (fun x y => sd (r_G M) h x y 10) y0 ny d (x6 + 1) = x5 + lc_x (fun x y => sd (r_G M) h x y 10) y0 ny (d + 1) x6 := by
      show _ = x5 + (lc_y (fun y => sd (r_G M) h x6 y 10) ny y0 + lc_x (fun x y => sd (r_G M) h x y 10) y0 ny d (x6 + 1))
      omega
    rw [e1, e2] at k2
    rw [← k2, ← k1]
    clear ih k1 k2 hF e1 e2 cy
    rw [E_V_eq]
    show e_tv E_C (E_V 223) e_t223_36 [192, q, hh, x3, x4, x5, x6, x7] M = _
    unfold e_t223_36
    simp [zq_a, zq_b, zq_c, zq_d, zq_e, zq_f, zq_g, zq_h, zq_i, zq_j, zq_k, zq_l, zq_m, zq_n, zq_o, zq_p, zq_q, zq_r, zq_s, zq_t, zq_u, zq_v, zq_w, zq_x, zq_y, zq_z, zq_A, zq_B, zq_C, zq_D, zq_E, zq_F, zq_G, zq_H, zq_I, zq_J, zq_K, zq_L, ↓zq_M, ↓zq_N, ↓zq_O, ↓zq_P, ↓zq_Q, ↓zq_R, zq_S, zq_T, zq_U, zq_V, zq_W, zq_X, zq_Y, zq_Z, zq_0, zq_1, zq_2, zq_3, zq_4, zq_5, ↓zq_6, ↓zq_7, ↓zq_8, ↓zq_9, ↓zq_aa, zq_ab, zq_ac, zq_ad, zq_ae, zq_af, zq_ag, ↓zq_ah, ↓zq_ai, ↓zq_aj, zq_ak, ↓zq_al, ↓zq_am, e_b1, e_b2, x_o1, x_o2, r_O0, w0, l0, w1, l1, qq]
theorem dy_223 {q hh : Int} {h : Nat} (hF : h_F (r_G M)) (hh' : hh = h) (h12 : h < 12) (hq : 0 ≤ q ∧ q < 40) (hl : r_lies (r_G M) q) : E_C 223 [192, q, hh] M = some (ax_T (r_G M) h q, M) := by
  have w0 : e_w (28 * q) = 28 * q := a_w_id (by omega) (by omega)
  have w1 : e_w (28 * q + 20) = 28 * q + 20 := a_w_id (by omega) (by omega)
  have l0 : e_op 60 [193, 28 * q + 20] M = some (r_G M (28 * q + 20)) := r_rd (by omega) (by omega)
  by_cases c0 : r_G M (28 * q + 20) = 0
  · unfold ax_T
    rw [if_pos c0]
    rw [c0] at l0
    clear hF
    rw [r_ent (show e_rok 223 [192, q, hh] = true from decide_eq_true r_ref)]
    show e_tv E_C (E_V 223) e_t223_0 [192, q, hh, 0, 0, 0, 0, 0] M = _
    unfold e_t223_0
    simp [zq_a, zq_b, zq_c, zq_d, zq_e, zq_f, zq_g, zq_h, zq_i, zq_j, zq_k, zq_l, zq_m, zq_n, zq_o, zq_p, zq_q, zq_r, zq_s, zq_t, zq_u, zq_v, zq_w, zq_x, zq_y, zq_z, zq_A, zq_B, zq_C, zq_D, zq_E, zq_F, zq_G, zq_H, zq_I, zq_J, zq_K, zq_L, ↓zq_M, ↓zq_N, ↓zq_O, ↓zq_P, ↓zq_Q, ↓zq_R, zq_S, zq_T, zq_U, zq_V, zq_W, zq_X, zq_Y, zq_Z, zq_0, zq_1, zq_2, zq_3, zq_4, zq_5, ↓zq_6, ↓zq_7, ↓zq_8, ↓zq_9, ↓zq_aa, zq_ab, zq_ac, zq_ad, zq_ae, zq_af, zq_ag, ↓zq_ah, ↓zq_ai, ↓zq_aj, zq_ak, ↓zq_al, ↓zq_am, e_b1, e_b2, x_o1, x_o2, r_O0, w0, w1, l0]
  · obtain ⟨l1, l2, l3, l4, l5, l6⟩ := hl.resolve_left c0
    obtain ⟨ny, hny⟩ : ∃ ny : Nat, r_G M (28 * q + 24) - r_G M (28 * q + 22) + 1 = ny := ⟨(r_G M (28 * q + 24) - r_G M (28 * q + 22) + 1).toNat, by omega⟩
    obtain ⟨nx, hnx⟩ : ∃ nx : Nat, r_G M (28 * q + 23) - r_G M (28 * q + 21) + 1 = nx := ⟨(r_G M (28 * q + 23) - r_G M (28 * q + 21) + 1).toNat, by omega⟩
    have k := dy_36 (M := M) (x3 := 28 * q + 20) (ny := ny) hF hh' h12 rfl hq rfl rfl rfl l4 l6 (by omega) (by omega) l3 nx 0 0 (r_G M (28 * q + 21)) 0 l1 (by omega) (by decide) (by omega) (by decide) (by omega) (fun h => by omega)
    rw [Int.zero_add, Int.zero_add] at k
    have l7 : e_op 60 [193, 28 * q + 20 + 1] M = some (r_G M (28 * q + 21)) := (r_rd (by omega) (by omega)).trans (by rw [show 28 * q + 20 + 1 = 28 * q + 21 by omega])
    have w2 : e_w (28 * q + 20 + 1) = 28 * q + 20 + 1 := a_w_id (by omega) (by omega)
    unfold ax_T
    rw [if_neg c0, hny, hnx, Int.toNat_natCast, Int.toNat_natCast]
    clear hF
    generalize lc_x (fun x y => sd (r_G M) h x y 10) (r_G M (28 * q + 22)) ny nx (r_G M (28 * q + 21)) = z at *
    generalize r_G M (28 * q + 20) = v at *
    rw [r_ent (show e_rok 223 [192, q, hh] = true from decide_eq_true r_ref)]
    show e_tv E_C (E_V 223) e_t223_0 [192, q, hh, 0, 0, 0, 0, 0] M = _
    unfold e_t223_0
    simp [zq_a, zq_b, zq_c, zq_d, zq_e, zq_f, zq_g, zq_h, zq_i, zq_j, zq_k, zq_l, zq_m, zq_n, zq_o, zq_p, zq_q, zq_r, zq_s, zq_t, zq_u, zq_v, zq_w, zq_x, zq_y, zq_z, zq_A, zq_B, zq_C, zq_D, zq_E, zq_F, zq_G, zq_H, zq_I, zq_J, zq_K, zq_L, ↓zq_M, ↓zq_N, ↓zq_O, ↓zq_P, ↓zq_Q, ↓zq_R, zq_S, zq_T, zq_U, zq_V, zq_W, zq_X, zq_Y, zq_Z, zq_0, zq_1, zq_2, zq_3, zq_4, zq_5, ↓zq_6, ↓zq_7, ↓zq_8, ↓zq_9, ↓zq_aa, zq_ab, zq_ac, zq_ad, zq_ae, zq_af, zq_ag, ↓zq_ah, ↓zq_ai, ↓zq_aj, zq_ak, ↓zq_al, ↓zq_am, e_b1, e_b2, x_o1, x_o2, r_O0, w0, w1, w2, l0, l7, c0, k]
/-- all that the class asks for shades and strength -/
def dy_C (N : EM) (g : Int → Int) : Prop := hd_all N ∧ r_G N = g ∧ sd_R N g ∧ h_K N 0 g
theorem dy_C_fr {N N' : EM} (h : dy_C N g) (f : ∀ id k, ¬ (170 ≤ id ∧ id ≤ 191) → N' id k = N id k) (h0 : N' 171 0 = 0) : dy_C N' g := by
  obtain ⟨a, b, ⟨r1, r2, ht, fF⟩, k6, k7, k32⟩ := h
  refine ⟨hd_all_fr a f h0, (funext fun i => f _ _ (by decide)).trans b, ⟨fun j hj => ?_, fun j hj => ?_, fun w hw => ?_, fF⟩, (f _ _ (by decide)).trans k6, fun h => (f _ _ (by decide)).trans (k7 h), fun i hi => (f _ _ (by decide)).trans (k32 i hi)⟩
  · rw [f _ _ (by decide), f _ _ (by decide), f _ _ (by decide)]; exact r1 j hj
  · rw [f _ _ (by decide), f _ _ (by decide)]; exact r2 j hj
  · rw [f _ _ (by decide), f _ _ (by decide)]; exact ht w hw
def sh_S (g : Int → Int) (h : Nat) (st : Int) (q : Int) (a : Nat) : Int := if a = 0 then (ax_T g h q * st).tdiv 100 else g (28 * q + 15 + (a : Int))
theorem sh_b {t s : Int} (ht : 0 ≤ t ∧ t ≤ 100) (hs : 0 ≤ s ∧ s ≤ 100) : (0 ≤ t * s ∧ t * s ≤ 10000) ∧ 0 ≤ (t * s).tdiv 100 ∧ (t * s).tdiv 100 ≤ 100 := by
  have a : 0 ≤ t * s := Int.mul_nonneg ht.1 hs.1
  have b : t * s ≤ t * 100 := Int.mul_le_mul_of_nonneg_left hs.2 ht.1
  rw [Int.tdiv_eq_ediv_of_nonneg a]
  omega
theorem sh_lies {q : Int} (hW : r_W g) (h0 : 0 ≤ q) (h1 : q < g 1198) (hk : g (28 * q) = 0) : r_lies g q := by
  rcases hW.2.2.1 q h0 h1 with x | x | x | x
  · exact x.2.2.2.2.2
  · have := x.2.2.1; omega
  · have := x.2.2.1; omega
  · have := x.2.2.1; omega
theorem sh_ok {h : Nat} {st : Int} (hW : r_W g) (hcs : hd_cs g) (hst : 0 ≤ st ∧ st ≤ 100) : st_ok g (sh_S g h st) := by
  intro q h1 h2 a ha
  have c := (hcs q (by omega) h1 h2).1 a ha
  unfold sh_S
  by_cases a0 : a = 0
  · rw [if_pos a0]
    exact (sh_b (ax_T_bd (sh_lies hW (by omega) h1 h2)) hst).2
  · rw [if_neg a0]; exact c
/-- the class: shine -/
theorem sh_8 {n h : Nat} {st : Int} (hW : r_W g) (h40 : g 1198 ≤ 40) (hst : 0 ≤ st ∧ st ≤ 100) (hS : lt_S M (fun x y => sd g h x y 10)) (hC : h_C M 0 g) (hn : M 170 0 = n) (hn40 : n ≤ 40) (raw : ∀ j, j < n → ∃ q, hd_rw g M j q) : ∃ M', E_C 8 [170, 191, st] M = some (0, M') ∧ (∀ j q, j < n → hd_rw g M j q → M' 175 (4 * j) = (ax_T g h (q : Int) * st).tdiv 100) ∧ ∀ id k, ¬ (id = 175 ∧ k % 4 = 0) → M' id k = M id k := by
  have lp : ∀ (d j : Nat) (x3 : Int) (N : EM), x3 = j → j + d = n → (∀ i q, i < j → hd_rw g M i q → N 175 (4 * i) = (ax_T g h (q : Int) * st).tdiv 100) → (∀ id k, ¬ (id = 175 ∧ k % 4 = 0) → N id k = M id k) → ∃ M', E_V 8 2 [170, 191, st, x3] N = some (0, M') ∧ (∀ j q, j < n → hd_rw g M j q → M' 175 (4 * j) = (ax_T g h (q : Int) * st).tdiv 100) ∧ ∀ id k, ¬ (id = 175 ∧ k % 4 = 0) → M' id k = M id k := by
    intro d
    induction d with
    | zero =>
      intro j x3 N hx hj h1 h2
      have z : N 170 0 = n := (h2 _ _ (by omega)).trans hn
      obtain ⟨nn, hnn⟩ : ∃ nn : Int, (n : Int) = nn := ⟨_, rfl⟩
      rw [hnn] at z
      have q : ¬ (x3 < nn) := by omega
      refine ⟨N, ?_, fun i q hi => h1 i q (by omega), h2⟩
      clear h1 h2
      rw [E_V_eq]
      show e_tv E_C (E_V 8) e_t8_2 [170, 191, st, x3] N = _
      unfold e_t8_2
      simp [zq_a, zq_b, zq_c, zq_d, zq_e, zq_f, zq_g, zq_h, zq_i, zq_j, zq_k, zq_l, zq_m, zq_n, zq_o, zq_p, zq_q, zq_r, zq_s, zq_t, zq_u, zq_v, zq_w, zq_x, zq_y, zq_z, zq_A, zq_B, zq_C, zq_D, zq_E, zq_F, zq_G, zq_H, zq_I, zq_J, zq_K, zq_L, ↓zq_M, ↓zq_N, ↓zq_O, ↓zq_P, ↓zq_Q, ↓zq_R, zq_S, zq_T, zq_U, zq_V, zq_W, zq_X, zq_Y, zq_Z, zq_0, zq_1, zq_2, zq_3, zq_4, zq_5, ↓zq_6, ↓zq_7, ↓zq_8, ↓zq_9, ↓zq_aa, zq_ab, zq_ac, zq_ad, zq_ae, zq_af, zq_ag, ↓zq_ah, ↓zq_ai, ↓zq_aj, zq_ak, ↓zq_al, ↓zq_am, e_b1, e_b2, x_o1, x_o2, bx_F0, z, q]
    | succ d ih =>
      intro j x3 N hx hj h1 h2
      have z : N 170 0 = n := (h2 _ _ (by omega)).trans hn
      obtain ⟨nn, hnn⟩ : ∃ nn : Int, (n : Int) = nn := ⟨_, rfl⟩
      rw [hnn] at z
      have qq : x3 < nn := by omega
      obtain ⟨q, hq⟩ := raw j (by omega)
      obtain ⟨d1, d2, d3, d4, d5⟩ := id hq
      have hl := sh_lies hW (by omega) d2 d3
      have tb := ax_T_bd (h := h) hl
      have kb := sh_b tb hst
      have t174 : E_C 146 [174, x3] N = some ((q : Int), N) := (w_atN (a := 174) (n := 40) (by decide +kernel) (j := j) hx (by omega) N).trans (by rw [show N (174 : Int).toNat j = (q : Int) from (h2 _ _ (by omega)).trans d1])
      have SN : lt_S N (fun x y => sd g h x y 10) := fun x y a b => (h2 _ _ (by omega)).trans (hS x y a b)
      obtain ⟨-, -, c3⟩ := hC q d2 d3
      have kl := lt_38 (N := N) (g := g) (h := h) (qi := (q : Int)) rfl (by omega) hl SN (by
        rw [h2 23 q (by omega), h2 24 q (by omega)]
        exact c3)
      have l1 : ∀ v, E_C 147 [175, x3 * 4, v] N = some (0, e_up N 175 (4 * j) v) := fun v => w_layN (a := 175) (n := 160) (by decide +kernel) (j := 4 * j) (by omega) (by omega) v N
      obtain ⟨M', k, k1, k2⟩ := ih (j + 1) (x3 + 1) (e_up N 175 (4 * j) ((ax_T g h (q : Int) * st).tdiv 100)) (by omega) (by omega) (fun i q' hi hq' => by
        by_cases e : i = j
        · subst e
          rw [c_up_s]
          have : (q' : Int) = (q : Int) := hq'.1.symm.trans d1
          rw [this]
        · rw [c_up_n (by omega)]
          exact h1 i q' (by omega) hq') (fun id k hid => by
        rw [c_up_n (by omega)]
        exact h2 id k hid)
      refine ⟨M', ?_, k1, k2⟩
      rw [← k]
      have w1 : e_w (x3 * 4) = x3 * 4 := a_w_id (by omega) (by omega)
      have w2 : e_w (x3 + 1) = x3 + 1 := a_w_id (by omega) (by omega)
      have w5 : e_w (x3 * 4 + 0) = x3 * 4 := by rw [Int.add_zero]; exact w1
      clear ih h1 h2 k k1 k2 SN hS hC c3 hq raw d4
      generalize ax_T g h (q : Int) = t at *
      have w3 : e_w (t * st) = t * st := a_w_id (by omega) (by omega)
      have w4 : e_w ((t * st).tdiv 100) = (t * st).tdiv 100 := a_w_id (by omega) (by omega)
      generalize (q : Int) = qi at *
      rw [E_V_eq]
      show e_tv E_C (E_V 8) e_t8_2 [170, 191, st, x3] N = _
      unfold e_t8_2
      simp [zq_a, zq_b, zq_c, zq_d, zq_e, zq_f, zq_g, zq_h, zq_i, zq_j, zq_k, zq_l, zq_m, zq_n, zq_o, zq_p, zq_q, zq_r, zq_s, zq_t, zq_u, zq_v, zq_w, zq_x, zq_y, zq_z, zq_A, zq_B, zq_C, zq_D, zq_E, zq_F, zq_G, zq_H, zq_I, zq_J, zq_K, zq_L, ↓zq_M, ↓zq_N, ↓zq_O, ↓zq_P, ↓zq_Q, ↓zq_R, zq_S, zq_T, zq_U, zq_V, zq_W, zq_X, zq_Y, zq_Z, zq_0, zq_1, zq_2, zq_3, zq_4, zq_5, ↓zq_6, ↓zq_7, ↓zq_8, ↓zq_9, ↓zq_aa, zq_ab, zq_ac, zq_ad, zq_ae, zq_af, zq_ag, ↓zq_ah, ↓zq_ai, ↓zq_aj, zq_ak, ↓zq_al, ↓zq_am, e_b1, e_b2, x_o1, x_o2, bx_F0, bx_G3, bx_Gb, bx_Gc, w_H1, z, qq, t174, kl, w1, w2, w3, w4, w5, l1]
  obtain ⟨M', k, kk⟩ := lp n 0 0 M rfl (by omega) (fun i q h => absurd h (Nat.not_lt_zero _)) (fun _ _ _ => rfl)
  refine ⟨M', ?_, kk⟩
  rw [r_ent (show e_rok 8 [170, 191, st] = true from bx_r (M := M) rfl (by decide +kernel))]
  show e_tv E_C (E_V 8) e_t8_0 [170, 191, st, 0] M = _
  unfold e_t8_0
  simp [zq_a, zq_b, zq_c, zq_d, zq_e, zq_f, zq_g, zq_h, zq_i, zq_j, zq_k, zq_l, zq_m, zq_n, zq_o, zq_p, zq_q, zq_r, zq_s, zq_t, zq_u, zq_v, zq_w, zq_x, zq_y, zq_z, zq_A, zq_B, zq_C, zq_D, zq_E, zq_F, zq_G, zq_H, zq_I, zq_J, zq_K, zq_L, ↓zq_M, ↓zq_N, ↓zq_O, ↓zq_P, ↓zq_Q, ↓zq_R, zq_S, zq_T, zq_U, zq_V, zq_W, zq_X, zq_Y, zq_Z, zq_0, zq_1, zq_2, zq_3, zq_4, zq_5, ↓zq_6, ↓zq_7, ↓zq_8, ↓zq_9, ↓zq_aa, zq_ab, zq_ac, zq_ad, zq_ae, zq_af, zq_ag, ↓zq_ah, ↓zq_ai, ↓zq_aj, zq_ak, ↓zq_al, ↓zq_am, e_b1, e_b2, x_o1, x_o2, k]
theorem ax_77g {d h x : Int} {N : EM} (hK : h_K N 0 g) (hW : r_W g) (hb : ∀ i, -2147483648 ≤ sg_v g i ∧ sg_v g i ≤ 2147483647) (hd : 0 ≤ d ∧ d ≤ 9) (hh : 0 ≤ h ∧ h ≤ 11) (hx : x = 12 * d + h) : E_C 77 [26, x] N = some (ax_G g d h, N) := by
  obtain ⟨k6, k7, k32⟩ := hK
  have z := hW.2.2.2.2.2.2
  exact sg_77 (n := (g 1200).toNat) (k := (12 * d + h).toNat) (by rw [show N 26 6 = g 1200 from k6]; omega) (by omega) (fun h => k7 (by omega)) k32 hb (by omega)
theorem ax_713 (M : EM) : e_gf 713 [8] M = some 191 := p_g 713 8 191 M (by decide +kernel)
/-- the class: BEST POWER in an HOUR -/
theorem ax_159 {p : Nat} {d : Int} {h : Nat} {hh : Int} (hc : dy_C M g) (hW : r_W g) (hb : ∀ i, -2147483648 ≤ sg_v g i ∧ sg_v g i ≤ 2147483647) (hp : (p : Int) < g 1198) (hd : 0 ≤ d ∧ d ≤ 9) (hh' : hh = h) (h12 : h < 12) : ∃ M', E_C 159 [8, (p : Int), d, hh] M = some (ax_PW g (sh_S g h (ax_G g d hh)) (p : Int), M') ∧ M' 171 0 = 0 ∧ ∀ id k, ¬ (170 ≤ id ∧ id ≤ 191) → M' id k = M id k := by
  obtain ⟨A, kA, sA, fA⟩ := sd_74 (M := M) (g := g) hc.2.2.1 hh' h12
  have cA : dy_C A g := dy_C_fr hc (fun id k hid => fA _ _ (by omega)) ((fA _ _ (by decide)).trans hc.1.2.2.2)
  obtain ⟨allA, GA, RA, KA⟩ := id cA
  have hpA : (p : Int) < r_G A 1198 := by rw [GA]; exact hp
  obtain ⟨N, k1, n0, n40, raw, fr, h0, go⟩ := ax_sp allA hpA
  rw [GA] at n0 n40 raw go
  have KN : h_K N 0 g := by
    obtain ⟨k6, k7, k32⟩ := KA
    exact ⟨(fr _ _ (by decide)).trans k6, fun h => (fr _ _ (by decide)).trans (k7 h), fun i hi => (fr _ _ (by decide)).trans (k32 i hi)⟩
  have k77 := ax_77g (d := d) (h := hh) (x := d * 12 + hh) KN hW hb hd ⟨by omega, by omega⟩ (by omega)
  have gb : 0 ≤ ax_G g d hh ∧ ax_G g d hh ≤ 100 := sg_bd
  have CN : h_C N 0 g := by
    have hC := allA.2.1
    rw [GA] at hC
    intro q hq
    unfold h_Cq
    have e : ∀ id, id < 162 → N id = A id := fun id hid => funext fun k => fr _ _ (by omega)
    rw [e (21 + 0) (by decide), e (22 + 0) (by decide), e (23 + 0) (by decide), e (24 + 0) (by decide)]
    exact hC q hq
  have SN : lt_S N (fun x y => sd g h x y 10) := fun x y a b => (fr _ _ (by decide)).trans (sA x y a b)
  have hcs : hd_cs g := by have := hd_cs_of allA.2.1; rw [GA] at this; exact this
  obtain ⟨N', k8, v8, f8⟩ := sh_8 (M := N) (g := g) (h := h) hW hW.2.1 gb SN CN n0 n40 raw
  obtain ⟨M', k21, m1, m0, mf⟩ := go (sh_S g h (ax_G g d hh)) N' (sh_ok hW hcs gb) (fun j q hj hq a ha => by
    unfold sh_S
    by_cases a0 : a = 0
    · subst a0
      rw [if_pos rfl, Nat.add_zero]
      exact v8 j q hj hq
    · rw [if_neg a0, f8 _ _ (by omega)]
      exact hq.2.2.2.1 a ha) (fun id k hid => f8 _ _ (by omega))
  refine ⟨M', ?_, m0, fun id k hid => (mf _ _ (by omega)).trans (fA _ _ (by omega))⟩
  clear mf m0 f8 v8 go fr raw n0 h0 sA fA cA allA GA RA KA KN CN SN hcs hc
  generalize ax_PW g (sh_S g h (ax_G g d hh)) (p : Int) = z at *
  generalize ax_G g d hh = st at *
  have w1 : e_w (d * 12) = d * 12 := a_w_id (by omega) (by omega)
  have w2 : e_w (d * 12 + hh) = d * 12 + hh := a_w_id (by omega) (by omega)
  generalize (p : Int) = pp at *
  have s0 : E_C 159 [8, pp, d, hh] M = e_tv E_C (E_V 159) e_t159_0 [8, pp, d, hh] M := r_ent (u := 159) (as := [8, pp, d, hh]) (M := M) (decide_eq_true c_this)
  rw [s0]
  unfold e_t159_0
  simp [zq_a, zq_b, zq_c, zq_d, zq_e, zq_f, zq_g, zq_h, zq_i, zq_j, zq_k, zq_l, zq_m, zq_n, zq_o, zq_p, zq_q, zq_r, zq_s, zq_t, zq_u, zq_v, zq_w, zq_x, zq_y, zq_z, zq_A, zq_B, zq_C, zq_D, zq_E, zq_F, zq_G, zq_H, zq_I, zq_J, zq_K, zq_L, ↓zq_M, ↓zq_N, ↓zq_O, ↓zq_P, ↓zq_Q, ↓zq_R, zq_S, zq_T, zq_U, zq_V, zq_W, zq_X, zq_Y, zq_Z, zq_0, zq_1, zq_2, zq_3, zq_4, zq_5, ↓zq_6, ↓zq_7, ↓zq_8, ↓zq_9, ↓zq_aa, zq_ab, zq_ac, zq_ad, zq_ae, zq_af, zq_ag, ↓zq_ah, ↓zq_ai, ↓zq_aj, zq_ak, ↓zq_al, ↓zq_am, e_b1, e_b2, x_o1, x_o2, p_704, p_195, ax_713, ax_bench, kA, k1, k77, k8, k21, bx_F1, m1, w1, w2]
end DY
