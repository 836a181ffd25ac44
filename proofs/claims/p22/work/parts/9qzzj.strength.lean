/-! strength of an HOUR of a DAY, by class and reference -/
def sg_a (v : Nat → Int) (gp : Int) : Nat → Int
  | 0 => -1
  | a + 1 => if v a = gp then sg_a v gp a else (a : Int)
def sg_b (v : Nat → Int) (gp : Int) : Nat → Nat → Nat
  | 0, b => b
  | d + 1, b => if v b = gp then sg_b v gp d (b + 1) else b
def sg_c (x : Int) : Int := if x < 0 then 0 else if 100 < x then 100 else x
def sg_m (n : Nat) (v : Nat → Int) (a : Int) (b : Nat) : Int := if a < 0 ∧ b = n then 0 else sg_c (((if a < 0 then v b else v a.toNat) + (if b = n then (if a < 0 then v b else v a.toNat) else v b)).tdiv 2)
def sg (n : Nat) (v : Nat → Int) (gp : Int) (k : Nat) : Int := if n ≤ k then 0 else sg_m n v (sg_a v gp (k + 1)) (sg_b v gp (n - k) k)
theorem sg_a_bd {v : Nat → Int} {gp : Int} : ∀ n, -1 ≤ sg_a v gp n ∧ sg_a v gp n < n := by
  intro n
  induction n with
  | zero => exact ⟨Int.le_refl _, by show (-1 : Int) < 0; decide⟩
  | succ n ih =>
    show -1 ≤ (if v n = gp then sg_a v gp n else (n : Int)) ∧ (if v n = gp then sg_a v gp n else (n : Int)) < ((n + 1 : Nat) : Int)
    split <;> omega
theorem sg_b_bd {v : Nat → Int} {gp : Int} : ∀ d b, b ≤ sg_b v gp d b ∧ sg_b v gp d b ≤ b + d := by
  intro d
  induction d with
  | zero => intro b; exact ⟨Nat.le_refl _, Nat.le_refl _⟩
  | succ d ih =>
    intro b
    have := ih (b + 1)
    show b ≤ (if v b = gp then sg_b v gp d (b + 1) else b) ∧ (if v b = gp then sg_b v gp d (b + 1) else b) ≤ b + (d + 1)
    split <;> omega
theorem sg_c_bd {x : Int} : 0 ≤ sg_c x ∧ sg_c x ≤ 100 := by
  unfold sg_c
  split
  · decide
  · split
    · decide
    · omega
theorem sg_bd {n : Nat} {v : Nat → Int} {gp : Int} {k : Nat} : 0 ≤ sg n v gp k ∧ sg n v gp k ≤ 100 := by
  unfold sg
  split
  · decide
  · unfold sg_m
    split
    · decide
    · exact sg_c_bd
section SG
variable {M : EM} {v : Nat → Int} {gp : Int} {n : Nat}
theorem sg_390 (M : EM) : e_gf 390 [26] M = some (M 26 6) := c_gf (by decide +kernel) (by decide +kernel)
theorem sg_391 (M : EM) : e_gf 391 [26] M = some (M 26 7) := c_gf (by decide +kernel) (by decide +kernel)
theorem sg_389 (M : EM) : e_gf 389 [26] M = some 32 := p_g 389 26 32 M (by decide +kernel)
theorem sg_at (hv : ∀ i, i < 120 → M 32 i = v i) {x : Int} {i : Nat} (hx : x = i) (hi : i < 120) : E_C 146 [32, x] M = some (v i, M) :=
  (w_atN (a := 32) (n := 120) (by decide +kernel) (j := i) hx hi M).trans (by rw [← hv i hi]; rfl)
theorem sg_2 {x1 : Int} (h7 : M 26 7 = gp) (hv : ∀ i, i < 120 → M 32 i = v i) (y3 y4 y5 y6 y7 : Int) : ∀ (a : Nat) (x2 : Int), a ≤ 120 → x2 + 1 = a → E_V 78 2 [26, x1, x2, y3, y4, y5, y6, y7] M = E_V 78 29 [26, x1, sg_a v gp a, x1, y4, y5, y6, y7] M := by
  intro a
  induction a with
  | zero =>
    intro x2 ha hx
    have e : x2 = -1 := by omega
    subst e
    show _ = E_V 78 29 [26, x1, -1, x1, y4, y5, y6, y7] M
    clear hv h7
    rw [E_V_eq]
    show e_tv E_C (E_V 78) e_t78_2 [26, x1, -1, y3, y4, y5, y6, y7] M = _
    unfold e_t78_2
    simp [zq_a, zq_b, zq_c, zq_d, zq_e, zq_f, zq_g, zq_h, zq_i, zq_j, zq_k, zq_l, zq_m, zq_n, zq_o, zq_p, zq_q, zq_r, zq_s, zq_t, zq_u, zq_v, zq_w, zq_x, zq_y, zq_z, zq_A, zq_B, zq_C, zq_D, zq_E, zq_F, zq_G, zq_H, zq_I, zq_J, zq_K, zq_L, ↓zq_M, ↓zq_N, ↓zq_O, ↓zq_P, ↓zq_Q, ↓zq_R, zq_S, zq_T, zq_U, zq_V, zq_W, zq_X, zq_Y, zq_Z, zq_0, zq_1, zq_2, zq_3, zq_4, zq_5, ↓zq_6, ↓zq_7, ↓zq_8, ↓zq_9, ↓zq_aa, zq_ab, zq_ac, zq_ad, zq_ae, zq_af, zq_ag, ↓zq_ah, ↓zq_ai, ↓zq_aj, zq_ak, ↓zq_al, ↓zq_am, e_b1, e_b2, x_o1, x_o2]
  | succ a ih =>
    intro x2 ha hx
    have q : 0 ≤ x2 := by omega
    have w : e_w (x2 + -1) = x2 - 1 := (a_w_id (by omega) (by omega)).trans (by omega)
    have t := sg_at (x := x2) (i := a) hv (by omega) (by omega)
    have k := ih (x2 - 1) (by omega) (by omega)
    show _ = E_V 78 29 [26, x1, (if v a = gp then sg_a v gp a else (a : Int)), x1, y4, y5, y6, y7] M
    by_cases c : v a = gp
    · rw [if_pos c, ← k]
      clear ih k hv
      generalize v a = z at *
      rw [E_V_eq]
      show e_tv E_C (E_V 78) e_t78_2 [26, x1, x2, y3, y4, y5, y6, y7] M = _
      unfold e_t78_2
      simp [zq_a, zq_b, zq_c, zq_d, zq_e, zq_f, zq_g, zq_h, zq_i, zq_j, zq_k, zq_l, zq_m, zq_n, zq_o, zq_p, zq_q, zq_r, zq_s, zq_t, zq_u, zq_v, zq_w, zq_x, zq_y, zq_z, zq_A, zq_B, zq_C, zq_D, zq_E, zq_F, zq_G, zq_H, zq_I, zq_J, zq_K, zq_L, ↓zq_M, ↓zq_N, ↓zq_O, ↓zq_P, ↓zq_Q, ↓zq_R, zq_S, zq_T, zq_U, zq_V, zq_W, zq_X, zq_Y, zq_Z, zq_0, zq_1, zq_2, zq_3, zq_4, zq_5, ↓zq_6, ↓zq_7, ↓zq_8, ↓zq_9, ↓zq_aa, zq_ab, zq_ac, zq_ad, zq_ae, zq_af, zq_ag, ↓zq_ah, ↓zq_ai, ↓zq_aj, zq_ak, ↓zq_al, ↓zq_am, e_b1, e_b2, x_o1, x_o2, sg_389, sg_391, h7, q, w, t, c]
    · rw [if_neg c, show ((a : Nat) : Int) = x2 by omega]
      clear ih k hv
      generalize v a = z at *
      rw [E_V_eq]
      show e_tv E_C (E_V 78) e_t78_2 [26, x1, x2, y3, y4, y5, y6, y7] M = _
      unfold e_t78_2
      simp [zq_a, zq_b, zq_c, zq_d, zq_e, zq_f, zq_g, zq_h, zq_i, zq_j, zq_k, zq_l, zq_m, zq_n, zq_o, zq_p, zq_q, zq_r, zq_s, zq_t, zq_u, zq_v, zq_w, zq_x, zq_y, zq_z, zq_A, zq_B, zq_C, zq_D, zq_E, zq_F, zq_G, zq_H, zq_I, zq_J, zq_K, zq_L, ↓zq_M, ↓zq_N, ↓zq_O, ↓zq_P, ↓zq_Q, ↓zq_R, zq_S, zq_T, zq_U, zq_V, zq_W, zq_X, zq_Y, zq_Z, zq_0, zq_1, zq_2, zq_3, zq_4, zq_5, ↓zq_6, ↓zq_7, ↓zq_8, ↓zq_9, ↓zq_aa, zq_ab, zq_ac, zq_ad, zq_ae, zq_af, zq_ag, ↓zq_ah, ↓zq_ai, ↓zq_aj, zq_ak, ↓zq_al, ↓zq_am, e_b1, e_b2, x_o1, x_o2, sg_389, sg_391, h7, q, t, c]
theorem sg_W {x : Int} (h : -9223372036854775808 ≤ x ∧ x ≤ 9223372036854775807) : e_W x = x := by
  unfold e_W
  omega
theorem sg_lw {x y : Int} (hx : -2147483648 ≤ x ∧ x ≤ 2147483647) (hy : -2147483648 ≤ y ∧ y ≤ 2147483647) : e_W (x + y) = x + y ∧ e_W ((x + y).tdiv 2) = (x + y).tdiv 2 ∧ -2147483648 ≤ (x + y).tdiv 2 ∧ (x + y).tdiv 2 ≤ 2147483647 := by
  have t : -2147483648 ≤ (x + y).tdiv 2 ∧ (x + y).tdiv 2 ≤ 2147483647 := by
    rcases Int.lt_or_le (x + y) 0 with c | c
    · have e : (x + y).tdiv 2 = -((-(x + y)).tdiv 2) := by rw [Int.neg_tdiv, Int.neg_neg]
      rw [e, Int.tdiv_eq_ediv_of_nonneg (by omega)]
      omega
    · rw [Int.tdiv_eq_ediv_of_nonneg c]
      omega
  exact ⟨sg_W ⟨by omega, by omega⟩, sg_W ⟨by omega, by omega⟩, t⟩
theorem sg_29 {x1 a : Int} {y4 y5 y6 y7 : Int} (h6 : M 26 6 = n) (hn : n ≤ 120) (h7 : M 26 7 = gp) (hv : ∀ i, i < 120 → M 32 i = v i) (hb : ∀ i, -2147483648 ≤ v i ∧ v i ≤ 2147483647) (ha : -1 ≤ a ∧ a < n) : ∀ (d b : Nat) (x3 : Int), x3 = b → b + d = n → ∃ z, E_V 78 29 [26, x1, a, x3, y4, y5, y6, y7] M = some (z, M) ∧ (-2147483648 ≤ z ∧ z ≤ 2147483647) ∧ sg_c z = sg_m n v a (sg_b v gp d b) := by
  intro d
  have hend : ∀ (b : Nat) (x3 : Int), x3 = b → b ≤ n → (b < n → v b ≠ gp) → ∃ z, E_V 78 29 [26, x1, a, x3, y4, y5, y6, y7] M = some (z, M) ∧ (-2147483648 ≤ z ∧ z ≤ 2147483647) ∧ sg_c z = sg_m n v a b := by
    intro b x3 hx hbn hg
    obtain ⟨nn, hnn⟩ : ∃ nn : Int, (n : Int) = nn := ⟨_, rfl⟩
    rw [hnn] at h6
    unfold sg_m
    have ta : 0 ≤ a → E_C 146 [32, a] M = some (v a.toNat, M) := fun h => sg_at (x := a) (i := a.toNat) hv (by omega) (by omega)
    have tb : b < n → E_C 146 [32, x3] M = some (v b, M) := fun h => sg_at (x := x3) (i := b) hv hx (by omega)
    have ba := hb a.toNat
    have bb := hb b
    rcases Int.lt_or_le a 0 with c1 | c1
    · rcases Nat.lt_or_ge b n with c2 | c2
      · rw [if_neg (fun e => by omega), if_pos c1, if_neg (show ¬ b = n by omega)]
        have q : x3 < nn := by omega
        have q_n : ¬ nn ≤ x3 := by omega
        have tb := tb c2
        have hg := hg c2
        obtain ⟨w1, w2, w3⟩ := sg_lw bb bb
        refine ⟨(v b + v b).tdiv 2, ?_, w3, rfl⟩
        clear hv hb ta
        generalize v b = z at *
        rw [E_V_eq]
        show e_tv E_C (E_V 78) e_t78_29 [26, x1, a, x3, y4, y5, y6, y7] M = _
        unfold e_t78_29
        simp [zq_a, zq_b, zq_c, zq_d, zq_e, zq_f, zq_g, zq_h, zq_i, zq_j, zq_k, zq_l, zq_m, zq_n, zq_o, zq_p, zq_q, zq_r, zq_s, zq_t, zq_u, zq_v, zq_w, zq_x, zq_y, zq_z, zq_A, zq_B, zq_C, zq_D, zq_E, zq_F, zq_G, zq_H, zq_I, zq_J, zq_K, zq_L, ↓zq_M, ↓zq_N, ↓zq_O, ↓zq_P, ↓zq_Q, ↓zq_R, zq_S, zq_T, zq_U, zq_V, zq_W, zq_X, zq_Y, zq_Z, zq_0, zq_1, zq_2, zq_3, zq_4, zq_5, ↓zq_6, ↓zq_7, ↓zq_8, ↓zq_9, ↓zq_aa, zq_ab, zq_ac, zq_ad, zq_ae, zq_af, zq_ag, ↓zq_ah, ↓zq_ai, ↓zq_aj, zq_ak, ↓zq_al, ↓zq_am, e_b1, e_b2, x_o1, x_o2, sg_389, sg_390, sg_391, h6, h7, q, q_n, tb, hg, c1, w1, w2]
      · rw [if_pos ⟨c1, by omega⟩]
        have q : ¬ (x3 < nn) := by omega
        have q_n : nn ≤ x3 := by omega
        refine ⟨0, ?_, by decide, by decide⟩
        clear hv hb ta tb ba bb
        rw [E_V_eq]
        show e_tv E_C (E_V 78) e_t78_29 [26, x1, a, x3, y4, y5, y6, y7] M = _
        unfold e_t78_29
        simp [zq_a, zq_b, zq_c, zq_d, zq_e, zq_f, zq_g, zq_h, zq_i, zq_j, zq_k, zq_l, zq_m, zq_n, zq_o, zq_p, zq_q, zq_r, zq_s, zq_t, zq_u, zq_v, zq_w, zq_x, zq_y, zq_z, zq_A, zq_B, zq_C, zq_D, zq_E, zq_F, zq_G, zq_H, zq_I, zq_J, zq_K, zq_L, ↓zq_M, ↓zq_N, ↓zq_O, ↓zq_P, ↓zq_Q, ↓zq_R, zq_S, zq_T, zq_U, zq_V, zq_W, zq_X, zq_Y, zq_Z, zq_0, zq_1, zq_2, zq_3, zq_4, zq_5, ↓zq_6, ↓zq_7, ↓zq_8, ↓zq_9, ↓zq_aa, zq_ab, zq_ac, zq_ad, zq_ae, zq_af, zq_ag, ↓zq_ah, ↓zq_ai, ↓zq_aj, zq_ak, ↓zq_al, ↓zq_am, e_b1, e_b2, x_o1, x_o2, sg_390, h6, q, q_n, c1]
    · have c1' : ¬ a < 0 := by omega
      have ta := ta c1
      rw [if_neg (fun e => c1' e.1), if_neg c1']
      rcases Nat.lt_or_ge b n with c2 | c2
      · rw [if_neg (show ¬ b = n by omega)]
        have q : x3 < nn := by omega
        have q_n : ¬ nn ≤ x3 := by omega
        have tb := tb c2
        have hg := hg c2
        obtain ⟨w1, w2, w3⟩ := sg_lw ba bb
        refine ⟨(v a.toNat + v b).tdiv 2, ?_, w3, rfl⟩
        clear hv hb
        generalize v b = z at *
        generalize v a.toNat = y at *
        rw [E_V_eq]
        show e_tv E_C (E_V 78) e_t78_29 [26, x1, a, x3, y4, y5, y6, y7] M = _
        unfold e_t78_29
        simp [zq_a, zq_b, zq_c, zq_d, zq_e, zq_f, zq_g, zq_h, zq_i, zq_j, zq_k, zq_l, zq_m, zq_n, zq_o, zq_p, zq_q, zq_r, zq_s, zq_t, zq_u, zq_v, zq_w, zq_x, zq_y, zq_z, zq_A, zq_B, zq_C, zq_D, zq_E, zq_F, zq_G, zq_H, zq_I, zq_J, zq_K, zq_L, ↓zq_M, ↓zq_N, ↓zq_O, ↓zq_P, ↓zq_Q, ↓zq_R, zq_S, zq_T, zq_U, zq_V, zq_W, zq_X, zq_Y, zq_Z, zq_0, zq_1, zq_2, zq_3, zq_4, zq_5, ↓zq_6, ↓zq_7, ↓zq_8, ↓zq_9, ↓zq_aa, zq_ab, zq_ac, zq_ad, zq_ae, zq_af, zq_ag, ↓zq_ah, ↓zq_ai, ↓zq_aj, zq_ak, ↓zq_al, ↓zq_am, e_b1, e_b2, x_o1, x_o2, sg_389, sg_390, sg_391, h6, h7, q, q_n, ta, tb, hg, c1', w1, w2]
      · rw [if_pos (show b = n by omega)]
        have q : ¬ (x3 < nn) := by omega
        have q_n : nn ≤ x3 := by omega
        obtain ⟨w1, w2, w3⟩ := sg_lw ba ba
        refine ⟨(v a.toNat + v a.toNat).tdiv 2, ?_, w3, rfl⟩
        clear hv hb tb bb
        generalize v a.toNat = y at *
        rw [E_V_eq]
        show e_tv E_C (E_V 78) e_t78_29 [26, x1, a, x3, y4, y5, y6, y7] M = _
        unfold e_t78_29
        simp [zq_a, zq_b, zq_c, zq_d, zq_e, zq_f, zq_g, zq_h, zq_i, zq_j, zq_k, zq_l, zq_m, zq_n, zq_o, zq_p, zq_q, zq_r, zq_s, zq_t, zq_u, zq_v, zq_w, zq_x, zq_y, zq_z, zq_A, zq_B, zq_C, zq_D, zq_E, zq_F, zq_G, zq_H, zq_I, zq_J, zq_K, zq_L, ↓zq_M, ↓zq_N, ↓zq_O, ↓zq_P, ↓zq_Q, ↓zq_R, zq_S, zq_T, zq_U, zq_V, zq_W, zq_X, zq_Y, zq_Z, zq_0, zq_1, zq_2, zq_3, zq_4, zq_5, ↓zq_6, ↓zq_7, ↓zq_8, ↓zq_9, ↓zq_aa, zq_ab, zq_ac, zq_ad, zq_ae, zq_af, zq_ag, ↓zq_ah, ↓zq_ai, ↓zq_aj, zq_ak, ↓zq_al, ↓zq_am, e_b1, e_b2, x_o1, x_o2, sg_389, sg_390, h6, q, q_n, ta, c1', w1, w2]
  induction d with
  | zero =>
    intro b x3 hx hbn
    exact hend b x3 hx (by omega) (fun h => by omega)
  | succ d ih =>
    intro b x3 hx hbn
    show ∃ z, _ ∧ _ ∧ sg_c z = sg_m n v a (if v b = gp then sg_b v gp d (b + 1) else b)
    by_cases c : v b = gp
    · rw [if_pos c]
      obtain ⟨z, k, k2⟩ := ih (b + 1) (x3 + 1) (by omega) (by omega)
      refine ⟨z, ?_, k2⟩
      rw [← k]
      have tb := sg_at (x := x3) (i := b) hv hx (by omega)
      obtain ⟨nn, hnn⟩ : ∃ nn : Int, (n : Int) = nn := ⟨_, rfl⟩
      rw [hnn] at h6
      have q : x3 < nn := by omega
      have w : e_w (x3 + 1) = x3 + 1 := a_w_id (by omega) (by omega)
      clear ih hv hb k k2 hend
      generalize v b = y at *
      rw [E_V_eq]
      show e_tv E_C (E_V 78) e_t78_29 [26, x1, a, x3, y4, y5, y6, y7] M = _
      unfold e_t78_29
      simp [zq_a, zq_b, zq_c, zq_d, zq_e, zq_f, zq_g, zq_h, zq_i, zq_j, zq_k, zq_l, zq_m, zq_n, zq_o, zq_p, zq_q, zq_r, zq_s, zq_t, zq_u, zq_v, zq_w, zq_x, zq_y, zq_z, zq_A, zq_B, zq_C, zq_D, zq_E, zq_F, zq_G, zq_H, zq_I, zq_J, zq_K, zq_L, ↓zq_M, ↓zq_N, ↓zq_O, ↓zq_P, ↓zq_Q, ↓zq_R, zq_S, zq_T, zq_U, zq_V, zq_W, zq_X, zq_Y, zq_Z, zq_0, zq_1, zq_2, zq_3, zq_4, zq_5, ↓zq_6, ↓zq_7, ↓zq_8, ↓zq_9, ↓zq_aa, zq_ab, zq_ac, zq_ad, zq_ae, zq_af, zq_ag, ↓zq_ah, ↓zq_ai, ↓zq_aj, zq_ak, ↓zq_al, ↓zq_am, e_b1, e_b2, x_o1, x_o2, sg_389, sg_390, sg_391, h6, h7, q, w, tb, c]
    · rw [if_neg c]
      exact hend b x3 hx (by omega) (fun _ => c)
theorem sg_77 {x1 : Int} {k : Nat} (h6 : M 26 6 = n) (hn : n ≤ 120) (h7 : n ≠ 0 → M 26 7 = gp) (hv : ∀ i, i < 120 → M 32 i = v i) (hb : ∀ i, -2147483648 ≤ v i ∧ v i ≤ 2147483647) (hk : x1 = k) : E_C 77 [26, x1] M = some (sg n v gp k, M) := by
  have s0 : E_C 77 [26, x1] M = e_tv E_C (E_V 77) e_t77_0 [26, x1, 0, 0] M := r_ent (u := 77) (as := [26, x1]) (M := M) (show e_rok 77 [26, x1] = true from by
    unfold e_rok
    rw [show q_rc (e_vm 77) = some 6 by decide +kernel]
    exact decide_eq_true (show e_isO 6 26 by decide +kernel))
  rw [s0]
  unfold sg
  have q0 : 0 ≤ x1 := by omega
  rcases Nat.lt_or_ge k n with c | c
  · rw [if_neg (by omega)]
    have h7 := h7 (by omega)
    have sa := sg_a_bd (v := v) (gp := gp) (k + 1)
    obtain ⟨z, m1, m2, m3⟩ := sg_29 (x1 := x1) (a := sg_a v gp (k + 1)) (y4 := 0) (y5 := 0) (y6 := 0) (y7 := 0) h6 hn h7 hv hb ⟨sa.1, by omega⟩ (n - k) k x1 hk (by omega)
    have m0 := sg_2 (x1 := x1) (v := v) h7 hv 0 0 0 0 0 (k + 1) x1 (by omega) (by omega)
    have k78 : E_C 78 [26, x1] M = some (z, M) := by
      have s1 : E_C 78 [26, x1] M = e_tv E_C (E_V 78) e_t78_0 [26, x1, 0, 0, 0, 0, 0, 0] M := r_ent (u := 78) (as := [26, x1]) (M := M) (show e_rok 78 [26, x1] = true from by
        unfold e_rok
        rw [show q_rc (e_vm 78) = some 6 by decide +kernel]
        exact decide_eq_true (show e_isO 6 26 by decide +kernel))
      rw [s1]
      unfold e_t78_0
      have m4 := m0.trans m1
      simp [zq_a, zq_b, zq_c, zq_d, zq_e, zq_f, zq_g, zq_h, zq_i, zq_j, zq_k, zq_l, zq_m, zq_n, zq_o, zq_p, zq_q, zq_r, zq_s, zq_t, zq_u, zq_v, zq_w, zq_x, zq_y, zq_z, zq_A, zq_B, zq_C, zq_D, zq_E, zq_F, zq_G, zq_H, zq_I, zq_J, zq_K, zq_L, ↓zq_M, ↓zq_N, ↓zq_O, ↓zq_P, ↓zq_Q, ↓zq_R, zq_S, zq_T, zq_U, zq_V, zq_W, zq_X, zq_Y, zq_Z, zq_0, zq_1, zq_2, zq_3, zq_4, zq_5, ↓zq_6, ↓zq_7, ↓zq_8, ↓zq_9, ↓zq_aa, zq_ab, zq_ac, zq_ad, zq_ae, zq_af, zq_ag, ↓zq_ah, ↓zq_ai, ↓zq_aj, zq_ak, ↓zq_al, ↓zq_am, e_b1, e_b2, x_o1, x_o2, m4]
    have t := sg_at (x := x1) (i := k) hv hk (by omega)
    obtain ⟨nn, hnn⟩ : ∃ nn : Int, (n : Int) = nn := ⟨_, rfl⟩
    rw [hnn] at h6
    have q1 : ¬ (nn ≤ x1) := by omega
    -- no GAP here: it is its own mean
    have own : v k ≠ gp → sg_m n v (sg_a v gp (k + 1)) (sg_b v gp (n - k) k) = sg_c (v k) := fun h => by
      have ea : sg_a v gp (k + 1) = k := if_neg h
      obtain ⟨d, hd⟩ : ∃ d, n - k = d + 1 := ⟨n - k - 1, by omega⟩
      have eb : sg_b v gp (n - k) k = k := by rw [hd]; exact if_neg h
      rw [ea, eb]
      unfold sg_m
      rw [if_neg (fun e => by omega), if_neg (by omega), if_neg (by omega), Int.toNat_natCast, show v k + v k = v k * 2 by omega, Int.mul_tdiv_cancel _ (by decide)]
    unfold e_t77_0
    by_cases c1 : v k = gp
    · rw [← m3]
      have w1 : e_w z = z := a_w_id m2.1 m2.2
      clear hv hb own m0 m1 m3 sa
      generalize v k = y at *
      unfold sg_c
      rcases x_lt z 0 with ⟨c2, c2_n⟩ | ⟨c2, c2_n⟩
      · rw [if_pos c2]
        simp [zq_a, zq_b, zq_c, zq_d, zq_e, zq_f, zq_g, zq_h, zq_i, zq_j, zq_k, zq_l, zq_m, zq_n, zq_o, zq_p, zq_q, zq_r, zq_s, zq_t, zq_u, zq_v, zq_w, zq_x, zq_y, zq_z, zq_A, zq_B, zq_C, zq_D, zq_E, zq_F, zq_G, zq_H, zq_I, zq_J, zq_K, zq_L, ↓zq_M, ↓zq_N, ↓zq_O, ↓zq_P, ↓zq_Q, ↓zq_R, zq_S, zq_T, zq_U, zq_V, zq_W, zq_X, zq_Y, zq_Z, zq_0, zq_1, zq_2, zq_3, zq_4, zq_5, ↓zq_6, ↓zq_7, ↓zq_8, ↓zq_9, ↓zq_aa, zq_ab, zq_ac, zq_ad, zq_ae, zq_af, zq_ag, ↓zq_ah, ↓zq_ai, ↓zq_aj, zq_ak, ↓zq_al, ↓zq_am, e_b1, e_b2, x_o1, x_o2, sg_389, sg_390, sg_391, h6, h7, q0, q1, t, c1, k78, c2, c2_n]
      · rw [if_neg (by omega)]
        rcases x_lt 100 z with ⟨c3, c3_n⟩ | ⟨c3, c3_n⟩
        · rw [if_pos c3]
          simp [zq_a, zq_b, zq_c, zq_d, zq_e, zq_f, zq_g, zq_h, zq_i, zq_j, zq_k, zq_l, zq_m, zq_n, zq_o, zq_p, zq_q, zq_r, zq_s, zq_t, zq_u, zq_v, zq_w, zq_x, zq_y, zq_z, zq_A, zq_B, zq_C, zq_D, zq_E, zq_F, zq_G, zq_H, zq_I, zq_J, zq_K, zq_L, ↓zq_M, ↓zq_N, ↓zq_O, ↓zq_P, ↓zq_Q, ↓zq_R, zq_S, zq_T, zq_U, zq_V, zq_W, zq_X, zq_Y, zq_Z, zq_0, zq_1, zq_2, zq_3, zq_4, zq_5, ↓zq_6, ↓zq_7, ↓zq_8, ↓zq_9, ↓zq_aa, zq_ab, zq_ac, zq_ad, zq_ae, zq_af, zq_ag, ↓zq_ah, ↓zq_ai, ↓zq_aj, zq_ak, ↓zq_al, ↓zq_am, e_b1, e_b2, x_o1, x_o2, sg_389, sg_390, sg_391, h6, h7, q0, q1, t, c1, k78, c2, c2_n, c3, c3_n]
        · rw [if_neg (by omega)]
          simp [zq_a, zq_b, zq_c, zq_d, zq_e, zq_f, zq_g, zq_h, zq_i, zq_j, zq_k, zq_l, zq_m, zq_n, zq_o, zq_p, zq_q, zq_r, zq_s, zq_t, zq_u, zq_v, zq_w, zq_x, zq_y, zq_z, zq_A, zq_B, zq_C, zq_D, zq_E, zq_F, zq_G, zq_H, zq_I, zq_J, zq_K, zq_L, ↓zq_M, ↓zq_N, ↓zq_O, ↓zq_P, ↓zq_Q, ↓zq_R, zq_S, zq_T, zq_U, zq_V, zq_W, zq_X, zq_Y, zq_Z, zq_0, zq_1, zq_2, zq_3, zq_4, zq_5, ↓zq_6, ↓zq_7, ↓zq_8, ↓zq_9, ↓zq_aa, zq_ab, zq_ac, zq_ad, zq_ae, zq_af, zq_ag, ↓zq_ah, ↓zq_ai, ↓zq_aj, zq_ak, ↓zq_al, ↓zq_am, e_b1, e_b2, x_o1, x_o2, sg_389, sg_390, sg_391, h6, h7, q0, q1, t, c1, k78, c2, c2_n, c3, c3_n, w1]
    · rw [own c1]
      have b := hb k
      clear hv hb own m0 m1 m3 sa k78
      generalize v k = y at *
      have w1 : e_w y = y := a_w_id b.1 b.2
      unfold sg_c
      rcases x_lt y 0 with ⟨c2, c2_n⟩ | ⟨c2, c2_n⟩
      · rw [if_pos c2]
        simp [zq_a, zq_b, zq_c, zq_d, zq_e, zq_f, zq_g, zq_h, zq_i, zq_j, zq_k, zq_l, zq_m, zq_n, zq_o, zq_p, zq_q, zq_r, zq_s, zq_t, zq_u, zq_v, zq_w, zq_x, zq_y, zq_z, zq_A, zq_B, zq_C, zq_D, zq_E, zq_F, zq_G, zq_H, zq_I, zq_J, zq_K, zq_L, ↓zq_M, ↓zq_N, ↓zq_O, ↓zq_P, ↓zq_Q, ↓zq_R, zq_S, zq_T, zq_U, zq_V, zq_W, zq_X, zq_Y, zq_Z, zq_0, zq_1, zq_2, zq_3, zq_4, zq_5, ↓zq_6, ↓zq_7, ↓zq_8, ↓zq_9, ↓zq_aa, zq_ab, zq_ac, zq_ad, zq_ae, zq_af, zq_ag, ↓zq_ah, ↓zq_ai, ↓zq_aj, zq_ak, ↓zq_al, ↓zq_am, e_b1, e_b2, x_o1, x_o2, sg_389, sg_390, sg_391, h6, h7, q0, q1, t, c1, c2, c2_n]
      · rw [if_neg (by omega)]
        rcases x_lt 100 y with ⟨c3, c3_n⟩ | ⟨c3, c3_n⟩
        · rw [if_pos c3]
          simp [zq_a, zq_b, zq_c, zq_d, zq_e, zq_f, zq_g, zq_h, zq_i, zq_j, zq_k, zq_l, zq_m, zq_n, zq_o, zq_p, zq_q, zq_r, zq_s, zq_t, zq_u, zq_v, zq_w, zq_x, zq_y, zq_z, zq_A, zq_B, zq_C, zq_D, zq_E, zq_F, zq_G, zq_H, zq_I, zq_J, zq_K, zq_L, ↓zq_M, ↓zq_N, ↓zq_O, ↓zq_P, ↓zq_Q, ↓zq_R, zq_S, zq_T, zq_U, zq_V, zq_W, zq_X, zq_Y, zq_Z, zq_0, zq_1, zq_2, zq_3, zq_4, zq_5, ↓zq_6, ↓zq_7, ↓zq_8, ↓zq_9, ↓zq_aa, zq_ab, zq_ac, zq_ad, zq_ae, zq_af, zq_ag, ↓zq_ah, ↓zq_ai, ↓zq_aj, zq_ak, ↓zq_al, ↓zq_am, e_b1, e_b2, x_o1, x_o2, sg_389, sg_390, sg_391, h6, h7, q0, q1, t, c1, c2, c2_n, c3, c3_n]
        · rw [if_neg (by omega)]
          simp [zq_a, zq_b, zq_c, zq_d, zq_e, zq_f, zq_g, zq_h, zq_i, zq_j, zq_k, zq_l, zq_m, zq_n, zq_o, zq_p, zq_q, zq_r, zq_s, zq_t, zq_u, zq_v, zq_w, zq_x, zq_y, zq_z, zq_A, zq_B, zq_C, zq_D, zq_E, zq_F, zq_G, zq_H, zq_I, zq_J, zq_K, zq_L, ↓zq_M, ↓zq_N, ↓zq_O, ↓zq_P, ↓zq_Q, ↓zq_R, zq_S, zq_T, zq_U, zq_V, zq_W, zq_X, zq_Y, zq_Z, zq_0, zq_1, zq_2, zq_3, zq_4, zq_5, ↓zq_6, ↓zq_7, ↓zq_8, ↓zq_9, ↓zq_aa, zq_ab, zq_ac, zq_ad, zq_ae, zq_af, zq_ag, ↓zq_ah, ↓zq_ai, ↓zq_aj, zq_ak, ↓zq_al, ↓zq_am, e_b1, e_b2, x_o1, x_o2, sg_389, sg_390, sg_391, h6, h7, q0, q1, t, c1, c2, c2_n, c3, c3_n, w1]
  · rw [if_pos c]
    obtain ⟨nn, hnn⟩ : ∃ nn : Int, (n : Int) = nn := ⟨_, rfl⟩
    rw [hnn] at h6
    have q1 : nn ≤ x1 := by omega
    unfold e_t77_0
    clear hv hb h7
    simp [zq_a, zq_b, zq_c, zq_d, zq_e, zq_f, zq_g, zq_h, zq_i, zq_j, zq_k, zq_l, zq_m, zq_n, zq_o, zq_p, zq_q, zq_r, zq_s, zq_t, zq_u, zq_v, zq_w, zq_x, zq_y, zq_z, zq_A, zq_B, zq_C, zq_D, zq_E, zq_F, zq_G, zq_H, zq_I, zq_J, zq_K, zq_L, ↓zq_M, ↓zq_N, ↓zq_O, ↓zq_P, ↓zq_Q, ↓zq_R, zq_S, zq_T, zq_U, zq_V, zq_W, zq_X, zq_Y, zq_Z, zq_0, zq_1, zq_2, zq_3, zq_4, zq_5, ↓zq_6, ↓zq_7, ↓zq_8, ↓zq_9, ↓zq_aa, zq_ab, zq_ac, zq_ad, zq_ae, zq_af, zq_ag, ↓zq_ah, ↓zq_ai, ↓zq_aj, zq_ak, ↓zq_al, ↓zq_am, e_b1, e_b2, x_o1, x_o2, sg_390, h6, q0, q1]
/-- the reference -/
def sg_v (g : Int → Int) (i : Nat) : Int := g (1202 + (i : Int))
theorem sg_226 {x : Int} {i : Nat} (hx : x = i) (hi : i < 120) : E_C 226 [192, x] M = some (if sg_v (r_G M) i = h_lv (r_G M 1201) then 1 else 0, M) := by
  have w1 : e_w (1202 + x) = 1202 + x := a_w_id (by omega) (by omega)
  have l1 : e_op 60 [193, 1202 + x] M = some (sg_v (r_G M) i) := (r_rd (by omega) (by omega)).trans (by unfold sg_v; rw [hx])
  have l2 : e_op 60 [193, 1201] M = some (r_G M 1201) := r_rd (by decide) (by decide)
  generalize sg_v (r_G M) i = v at *
  generalize r_G M 1201 = s at *
  unfold h_lv
  by_cases c0 : s = 0
  · rw [if_pos c0]
    by_cases c : v = -128
    · rw [if_pos c]
      rw [r_ent (show e_rok 226 [192, x] = true from decide_eq_true r_ref)]
      show e_tv E_C (E_V 226) e_t226_0 [192, x] M = _
      unfold e_t226_0
      simp [zq_a, zq_b, zq_c, zq_d, zq_e, zq_f, zq_g, zq_h, zq_i, zq_j, zq_k, zq_l, zq_m, zq_n, zq_o, zq_p, zq_q, zq_r, zq_s, zq_t, zq_u, zq_v, zq_w, zq_x, zq_y, zq_z, zq_A, zq_B, zq_C, zq_D, zq_E, zq_F, zq_G, zq_H, zq_I, zq_J, zq_K, zq_L, ↓zq_M, ↓zq_N, ↓zq_O, ↓zq_P, ↓zq_Q, ↓zq_R, zq_S, zq_T, zq_U, zq_V, zq_W, zq_X, zq_Y, zq_Z, zq_0, zq_1, zq_2, zq_3, zq_4, zq_5, ↓zq_6, ↓zq_7, ↓zq_8, ↓zq_9, ↓zq_aa, zq_ab, zq_ac, zq_ad, zq_ae, zq_af, zq_ag, ↓zq_ah, ↓zq_ai, ↓zq_aj, zq_ak, ↓zq_al, ↓zq_am, e_b1, e_b2, x_o1, x_o2, r_O0, w1, l1, l2, c0, c]
    · rw [if_neg c]
      rw [r_ent (show e_rok 226 [192, x] = true from decide_eq_true r_ref)]
      show e_tv E_C (E_V 226) e_t226_0 [192, x] M = _
      unfold e_t226_0
      simp [zq_a, zq_b, zq_c, zq_d, zq_e, zq_f, zq_g, zq_h, zq_i, zq_j, zq_k, zq_l, zq_m, zq_n, zq_o, zq_p, zq_q, zq_r, zq_s, zq_t, zq_u, zq_v, zq_w, zq_x, zq_y, zq_z, zq_A, zq_B, zq_C, zq_D, zq_E, zq_F, zq_G, zq_H, zq_I, zq_J, zq_K, zq_L, ↓zq_M, ↓zq_N, ↓zq_O, ↓zq_P, ↓zq_Q, ↓zq_R, zq_S, zq_T, zq_U, zq_V, zq_W, zq_X, zq_Y, zq_Z, zq_0, zq_1, zq_2, zq_3, zq_4, zq_5, ↓zq_6, ↓zq_7, ↓zq_8, ↓zq_9, ↓zq_aa, zq_ab, zq_ac, zq_ad, zq_ae, zq_af, zq_ag, ↓zq_ah, ↓zq_ai, ↓zq_aj, zq_ak, ↓zq_al, ↓zq_am, e_b1, e_b2, x_o1, x_o2, r_O0, w1, l1, l2, c0, c]
  · rw [if_neg c0]
    by_cases c1 : s = 1
    · rw [if_pos c1]
      by_cases c : v = -32768
      · rw [if_pos c]
        rw [r_ent (show e_rok 226 [192, x] = true from decide_eq_true r_ref)]
        show e_tv E_C (E_V 226) e_t226_0 [192, x] M = _
        unfold e_t226_0
        simp [zq_a, zq_b, zq_c, zq_d, zq_e, zq_f, zq_g, zq_h, zq_i, zq_j, zq_k, zq_l, zq_m, zq_n, zq_o, zq_p, zq_q, zq_r, zq_s, zq_t, zq_u, zq_v, zq_w, zq_x, zq_y, zq_z, zq_A, zq_B, zq_C, zq_D, zq_E, zq_F, zq_G, zq_H, zq_I, zq_J, zq_K, zq_L, ↓zq_M, ↓zq_N, ↓zq_O, ↓zq_P, ↓zq_Q, ↓zq_R, zq_S, zq_T, zq_U, zq_V, zq_W, zq_X, zq_Y, zq_Z, zq_0, zq_1, zq_2, zq_3, zq_4, zq_5, ↓zq_6, ↓zq_7, ↓zq_8, ↓zq_9, ↓zq_aa, zq_ab, zq_ac, zq_ad, zq_ae, zq_af, zq_ag, ↓zq_ah, ↓zq_ai, ↓zq_aj, zq_ak, ↓zq_al, ↓zq_am, e_b1, e_b2, x_o1, x_o2, r_O0, w1, l1, l2, c1, c]
      · rw [if_neg c]
        rw [r_ent (show e_rok 226 [192, x] = true from decide_eq_true r_ref)]
        show e_tv E_C (E_V 226) e_t226_0 [192, x] M = _
        unfold e_t226_0
        simp [zq_a, zq_b, zq_c, zq_d, zq_e, zq_f, zq_g, zq_h, zq_i, zq_j, zq_k, zq_l, zq_m, zq_n, zq_o, zq_p, zq_q, zq_r, zq_s, zq_t, zq_u, zq_v, zq_w, zq_x, zq_y, zq_z, zq_A, zq_B, zq_C, zq_D, zq_E, zq_F, zq_G, zq_H, zq_I, zq_J, zq_K, zq_L, ↓zq_M, ↓zq_N, ↓zq_O, ↓zq_P, ↓zq_Q, ↓zq_R, zq_S, zq_T, zq_U, zq_V, zq_W, zq_X, zq_Y, zq_Z, zq_0, zq_1, zq_2, zq_3, zq_4, zq_5, ↓zq_6, ↓zq_7, ↓zq_8, ↓zq_9, ↓zq_aa, zq_ab, zq_ac, zq_ad, zq_ae, zq_af, zq_ag, ↓zq_ah, ↓zq_ai, ↓zq_aj, zq_ak, ↓zq_al, ↓zq_am, e_b1, e_b2, x_o1, x_o2, r_O0, w1, l1, l2, c1, c]
    · rw [if_neg c1]
      by_cases c : v = -2147483648
      · rw [if_pos c]
        rw [r_ent (show e_rok 226 [192, x] = true from decide_eq_true r_ref)]
        show e_tv E_C (E_V 226) e_t226_0 [192, x] M = _
        unfold e_t226_0
        simp [zq_a, zq_b, zq_c, zq_d, zq_e, zq_f, zq_g, zq_h, zq_i, zq_j, zq_k, zq_l, zq_m, zq_n, zq_o, zq_p, zq_q, zq_r, zq_s, zq_t, zq_u, zq_v, zq_w, zq_x, zq_y, zq_z, zq_A, zq_B, zq_C, zq_D, zq_E, zq_F, zq_G, zq_H, zq_I, zq_J, zq_K, zq_L, ↓zq_M, ↓zq_N, ↓zq_O, ↓zq_P, ↓zq_Q, ↓zq_R, zq_S, zq_T, zq_U, zq_V, zq_W, zq_X, zq_Y, zq_Z, zq_0, zq_1, zq_2, zq_3, zq_4, zq_5, ↓zq_6, ↓zq_7, ↓zq_8, ↓zq_9, ↓zq_aa, zq_ab, zq_ac, zq_ad, zq_ae, zq_af, zq_ag, ↓zq_ah, ↓zq_ai, ↓zq_aj, zq_ak, ↓zq_al, ↓zq_am, e_b1, e_b2, x_o1, x_o2, r_O0, w1, l1, l2, c0, c1, c]
      · rw [if_neg c]
        rw [r_ent (show e_rok 226 [192, x] = true from decide_eq_true r_ref)]
        show e_tv E_C (E_V 226) e_t226_0 [192, x] M = _
        unfold e_t226_0
        simp [zq_a, zq_b, zq_c, zq_d, zq_e, zq_f, zq_g, zq_h, zq_i, zq_j, zq_k, zq_l, zq_m, zq_n, zq_o, zq_p, zq_q, zq_r, zq_s, zq_t, zq_u, zq_v, zq_w, zq_x, zq_y, zq_z, zq_A, zq_B, zq_C, zq_D, zq_E, zq_F, zq_G, zq_H, zq_I, zq_J, zq_K, zq_L, ↓zq_M, ↓zq_N, ↓zq_O, ↓zq_P, ↓zq_Q, ↓zq_R, zq_S, zq_T, zq_U, zq_V, zq_W, zq_X, zq_Y, zq_Z, zq_0, zq_1, zq_2, zq_3, zq_4, zq_5, ↓zq_6, ↓zq_7, ↓zq_8, ↓zq_9, ↓zq_aa, zq_ab, zq_ac, zq_ad, zq_ae, zq_af, zq_ag, ↓zq_ah, ↓zq_ai, ↓zq_aj, zq_ak, ↓zq_al, ↓zq_am, e_b1, e_b2, x_o1, x_o2, r_O0, w1, l1, l2, c0, c1, c]
theorem sg_18 {x1 x3 y4 y5 y6 y7 y8 y9 : Int} : ∀ (a : Nat) (x2 : Int), a ≤ 120 → x2 + 1 = a → E_V 227 18 [192, x1, x2, x3, y4, y5, y6, y7, y8, y9] M = E_V 227 36 [192, x1, sg_a (sg_v (r_G M)) (h_lv (r_G M 1201)) a, x3, y4, y5, y6, y7, y8, y9] M := by
  intro a
  induction a with
  | zero =>
    intro x2 ha hx
    have e : x2 = -1 := by omega
    subst e
    show _ = E_V 227 36 [192, x1, -1, x3, y4, y5, y6, y7, y8, y9] M
    rw [E_V_eq]
    show e_tv E_C (E_V 227) e_t227_18 [192, x1, -1, x3, y4, y5, y6, y7, y8, y9] M = _
    unfold e_t227_18
    simp [zq_a, zq_b, zq_c, zq_d, zq_e, zq_f, zq_g, zq_h, zq_i, zq_j, zq_k, zq_l, zq_m, zq_n, zq_o, zq_p, zq_q, zq_r, zq_s, zq_t, zq_u, zq_v, zq_w, zq_x, zq_y, zq_z, zq_A, zq_B, zq_C, zq_D, zq_E, zq_F, zq_G, zq_H, zq_I, zq_J, zq_K, zq_L, ↓zq_M, ↓zq_N, ↓zq_O, ↓zq_P, ↓zq_Q, ↓zq_R, zq_S, zq_T, zq_U, zq_V, zq_W, zq_X, zq_Y, zq_Z, zq_0, zq_1, zq_2, zq_3, zq_4, zq_5, ↓zq_6, ↓zq_7, ↓zq_8, ↓zq_9, ↓zq_aa, zq_ab, zq_ac, zq_ad, zq_ae, zq_af, zq_ag, ↓zq_ah, ↓zq_ai, ↓zq_aj, zq_ak, ↓zq_al, ↓zq_am, e_b1, e_b2, x_o1, x_o2]
  | succ a ih =>
    intro x2 ha hx
    have q : 0 ≤ x2 := by omega
    have w : e_w (x2 + -1) = x2 - 1 := (a_w_id (by omega) (by omega)).trans (by omega)
    have t := sg_226 (M := M) (x := x2) (i := a) (by omega) (by omega)
    have k := ih (x2 - 1) (by omega) (by omega)
    show _ = E_V 227 36 [192, x1, (if sg_v (r_G M) a = h_lv (r_G M 1201) then sg_a (sg_v (r_G M)) (h_lv (r_G M 1201)) a else (a : Int)), x3, y4, y5, y6, y7, y8, y9] M
    by_cases c : sg_v (r_G M) a = h_lv (r_G M 1201)
    · rw [if_pos c] at t
      rw [if_pos c, ← k]
      clear ih k c
      rw [E_V_eq]
      show e_tv E_C (E_V 227) e_t227_18 [192, x1, x2, x3, y4, y5, y6, y7, y8, y9] M = _
      unfold e_t227_18
      simp [zq_a, zq_b, zq_c, zq_d, zq_e, zq_f, zq_g, zq_h, zq_i, zq_j, zq_k, zq_l, zq_m, zq_n, zq_o, zq_p, zq_q, zq_r, zq_s, zq_t, zq_u, zq_v, zq_w, zq_x, zq_y, zq_z, zq_A, zq_B, zq_C, zq_D, zq_E, zq_F, zq_G, zq_H, zq_I, zq_J, zq_K, zq_L, ↓zq_M, ↓zq_N, ↓zq_O, ↓zq_P, ↓zq_Q, ↓zq_R, zq_S, zq_T, zq_U, zq_V, zq_W, zq_X, zq_Y, zq_Z, zq_0, zq_1, zq_2, zq_3, zq_4, zq_5, ↓zq_6, ↓zq_7, ↓zq_8, ↓zq_9, ↓zq_aa, zq_ab, zq_ac, zq_ad, zq_ae, zq_af, zq_ag, ↓zq_ah, ↓zq_ai, ↓zq_aj, zq_ak, ↓zq_al, ↓zq_am, e_b1, e_b2, x_o1, x_o2, q, w, t]
    · rw [if_neg c] at t
      rw [if_neg c, show ((a : Nat) : Int) = x2 by omega]
      clear ih k c
      rw [E_V_eq]
      show e_tv E_C (E_V 227) e_t227_18 [192, x1, x2, x3, y4, y5, y6, y7, y8, y9] M = _
      unfold e_t227_18
      simp [zq_a, zq_b, zq_c, zq_d, zq_e, zq_f, zq_g, zq_h, zq_i, zq_j, zq_k, zq_l, zq_m, zq_n, zq_o, zq_p, zq_q, zq_r, zq_s, zq_t, zq_u, zq_v, zq_w, zq_x, zq_y, zq_z, zq_A, zq_B, zq_C, zq_D, zq_E, zq_F, zq_G, zq_H, zq_I, zq_J, zq_K, zq_L, ↓zq_M, ↓zq_N, ↓zq_O, ↓zq_P, ↓zq_Q, ↓zq_R, zq_S, zq_T, zq_U, zq_V, zq_W, zq_X, zq_Y, zq_Z, zq_0, zq_1, zq_2, zq_3, zq_4, zq_5, ↓zq_6, ↓zq_7, ↓zq_8, ↓zq_9, ↓zq_aa, zq_ab, zq_ac, zq_ad, zq_ae, zq_af, zq_ag, ↓zq_ah, ↓zq_ai, ↓zq_aj, zq_ak, ↓zq_al, ↓zq_am, e_b1, e_b2, x_o1, x_o2, q, t]
theorem sg_36 {x1 a : Int} {y4 y5 y6 y7 y8 y9 : Int} (h6 : r_G M 1200 = n) (hn : n ≤ 120) (hb : ∀ i, -2147483648 ≤ sg_v (r_G M) i ∧ sg_v (r_G M) i ≤ 2147483647) (ha : -1 ≤ a ∧ a < n) : ∀ (d b : Nat) (x3 : Int), x3 = b → b + d = n → E_V 227 36 [192, x1, a, x3, y4, y5, y6, y7, y8, y9] M = some (sg_m n (sg_v (r_G M)) a (sg_b (sg_v (r_G M)) (h_lv (r_G M 1201)) d b), M) := by
  have l0 : e_op 60 [193, 1200] M = some (n : Int) := (r_rd (by decide) (by decide)).trans (by rw [h6])
  intro d
  have hend : ∀ (b : Nat) (x3 : Int), x3 = b → b ≤ n → (b < n → sg_v (r_G M) b ≠ h_lv (r_G M 1201)) → E_V 227 36 [192, x1, a, x3, y4, y5, y6, y7, y8, y9] M = some (sg_m n (sg_v (r_G M)) a b, M) := by
    intro b x3 hx hbn hg
    obtain ⟨nn, hnn⟩ : ∃ nn : Int, (n : Int) = nn := ⟨_, rfl⟩
    rw [hnn] at l0
    unfold sg_m
    have wa : 0 ≤ a → e_w (1202 + a) = 1202 + a := fun h => a_w_id (by omega) (by omega)
    have wb : e_w (1202 + x3) = 1202 + x3 := a_w_id (by omega) (by omega)
    have la : 0 ≤ a → e_op 60 [193, 1202 + a] M = some (sg_v (r_G M) a.toNat) := fun h => (r_rd (by omega) (by omega)).trans (by unfold sg_v; rw [show ((a.toNat : Nat) : Int) = a by omega])
    have lb : b < n → e_op 60 [193, 1202 + x3] M = some (sg_v (r_G M) b) := fun h => (r_rd (by omega) (by omega)).trans (by unfold sg_v; rw [hx])
    have tb : b < n → E_C 226 [192, x3] M = some (0, M) := fun h => (sg_226 (M := M) (x := x3) (i := b) hx (by omega)).trans (by rw [if_neg (hg h)])
    have ba := hb a.toNat
    have bb := hb b
    have cl : ∀ z : Int, -2147483648 ≤ z → z ≤ 2147483647 → e_w z = z := fun z h1 h2 => a_w_id h1 h2
    rcases Int.lt_or_le a 0 with c1 | c1
    · rcases Nat.lt_or_ge b n with c2 | c2
      · rw [if_neg (fun e => by omega), if_pos c1, if_neg (show ¬ b = n by omega)]
        have q : x3 < nn := by omega
        have q2 : ¬ (x3 = nn) := by omega
        have tb := tb c2
        have lb := lb c2
        obtain ⟨w1, w2, w3⟩ := sg_lw bb bb
        have w4 := cl _ w3.1 w3.2
        clear hb la hg
        generalize sg_v (r_G M) b = z at *
        generalize hy : (z + z).tdiv 2 = y at *
        unfold sg_c
        rcases x_lt y 0 with ⟨d1, d1_n⟩ | ⟨d1, d1_n⟩
        · rw [if_pos d1]
          rw [E_V_eq]
          show e_tv E_C (E_V 227) e_t227_36 [192, x1, a, x3, y4, y5, y6, y7, y8, y9] M = _
          unfold e_t227_36
          simp [zq_a, zq_b, zq_c, zq_d, zq_e, zq_f, zq_g, zq_h, zq_i, zq_j, zq_k, zq_l, zq_m, zq_n, zq_o, zq_p, zq_q, zq_r, zq_s, zq_t, zq_u, zq_v, zq_w, zq_x, zq_y, zq_z, zq_A, zq_B, zq_C, zq_D, zq_E, zq_F, zq_G, zq_H, zq_I, zq_J, zq_K, zq_L, ↓zq_M, ↓zq_N, ↓zq_O, ↓zq_P, ↓zq_Q, ↓zq_R, zq_S, zq_T, zq_U, zq_V, zq_W, zq_X, zq_Y, zq_Z, zq_0, zq_1, zq_2, zq_3, zq_4, zq_5, ↓zq_6, ↓zq_7, ↓zq_8, ↓zq_9, ↓zq_aa, zq_ab, zq_ac, zq_ad, zq_ae, zq_af, zq_ag, ↓zq_ah, ↓zq_ai, ↓zq_aj, zq_ak, ↓zq_al, ↓zq_am, e_b1, e_b2, x_o1, x_o2, r_O0, l0, q, q2, tb, lb, wb, c1, w1, w2, hy, d1, d1_n]
        · rw [if_neg (by omega)]
          rcases x_lt 100 y with ⟨d2, d2_n⟩ | ⟨d2, d2_n⟩
          · rw [if_pos d2]
            rw [E_V_eq]
            show e_tv E_C (E_V 227) e_t227_36 [192, x1, a, x3, y4, y5, y6, y7, y8, y9] M = _
            unfold e_t227_36
            simp [zq_a, zq_b, zq_c, zq_d, zq_e, zq_f, zq_g, zq_h, zq_i, zq_j, zq_k, zq_l, zq_m, zq_n, zq_o, zq_p, zq_q, zq_r, zq_s, zq_t, zq_u, zq_v, zq_w, zq_x, zq_y, zq_z, zq_A, zq_B, zq_C, zq_D, zq_E, zq_F, zq_G, zq_H, zq_I, zq_J, zq_K, zq_L, ↓zq_M, ↓zq_N, ↓zq_O, ↓zq_P, ↓zq_Q, ↓zq_R, zq_S, zq_T, zq_U, zq_V, zq_W, zq_X, zq_Y, zq_Z, zq_0, zq_1, zq_2, zq_3, zq_4, zq_5, ↓zq_6, ↓zq_7, ↓zq_8, ↓zq_9, ↓zq_aa, zq_ab, zq_ac, zq_ad, zq_ae, zq_af, zq_ag, ↓zq_ah, ↓zq_ai, ↓zq_aj, zq_ak, ↓zq_al, ↓zq_am, e_b1, e_b2, x_o1, x_o2, r_O0, l0, q, q2, tb, lb, wb, c1, w1, w2, hy, d1, d1_n, d2, d2_n]
          · rw [if_neg (by omega)]
            rw [E_V_eq]
            show e_tv E_C (E_V 227) e_t227_36 [192, x1, a, x3, y4, y5, y6, y7, y8, y9] M = _
            unfold e_t227_36
            simp [zq_a, zq_b, zq_c, zq_d, zq_e, zq_f, zq_g, zq_h, zq_i, zq_j, zq_k, zq_l, zq_m, zq_n, zq_o, zq_p, zq_q, zq_r, zq_s, zq_t, zq_u, zq_v, zq_w, zq_x, zq_y, zq_z, zq_A, zq_B, zq_C, zq_D, zq_E, zq_F, zq_G, zq_H, zq_I, zq_J, zq_K, zq_L, ↓zq_M, ↓zq_N, ↓zq_O, ↓zq_P, ↓zq_Q, ↓zq_R, zq_S, zq_T, zq_U, zq_V, zq_W, zq_X, zq_Y, zq_Z, zq_0, zq_1, zq_2, zq_3, zq_4, zq_5, ↓zq_6, ↓zq_7, ↓zq_8, ↓zq_9, ↓zq_aa, zq_ab, zq_ac, zq_ad, zq_ae, zq_af, zq_ag, ↓zq_ah, ↓zq_ai, ↓zq_aj, zq_ak, ↓zq_al, ↓zq_am, e_b1, e_b2, x_o1, x_o2, r_O0, l0, q, q2, tb, lb, wb, c1, w1, w2, hy, w4, d1, d1_n, d2, d2_n]
      · rw [if_pos ⟨c1, by omega⟩]
        have q : ¬ (x3 < nn) := by omega
        have q2 : x3 = nn := by omega
        clear hb la lb tb ba bb hg
        subst q2
        rw [E_V_eq]
        show e_tv E_C (E_V 227) e_t227_36 [192, x1, a, x3, y4, y5, y6, y7, y8, y9] M = _
        unfold e_t227_36
        simp [zq_a, zq_b, zq_c, zq_d, zq_e, zq_f, zq_g, zq_h, zq_i, zq_j, zq_k, zq_l, zq_m, zq_n, zq_o, zq_p, zq_q, zq_r, zq_s, zq_t, zq_u, zq_v, zq_w, zq_x, zq_y, zq_z, zq_A, zq_B, zq_C, zq_D, zq_E, zq_F, zq_G, zq_H, zq_I, zq_J, zq_K, zq_L, ↓zq_M, ↓zq_N, ↓zq_O, ↓zq_P, ↓zq_Q, ↓zq_R, zq_S, zq_T, zq_U, zq_V, zq_W, zq_X, zq_Y, zq_Z, zq_0, zq_1, zq_2, zq_3, zq_4, zq_5, ↓zq_6, ↓zq_7, ↓zq_8, ↓zq_9, ↓zq_aa, zq_ab, zq_ac, zq_ad, zq_ae, zq_af, zq_ag, ↓zq_ah, ↓zq_ai, ↓zq_aj, zq_ak, ↓zq_al, ↓zq_am, e_b1, e_b2, x_o1, x_o2, r_O0, l0, c1]
    · have c1' : ¬ a < 0 := by omega
      have la := la c1
      have wa := wa c1
      rw [if_neg (fun e => c1' e.1), if_neg c1']
      rcases Nat.lt_or_ge b n with c2 | c2
      · rw [if_neg (show ¬ b = n by omega)]
        have q : x3 < nn := by omega
        have q2 : ¬ (x3 = nn) := by omega
        have tb := tb c2
        have lb := lb c2
        obtain ⟨w1, w2, w3⟩ := sg_lw ba bb
        have w4 := cl _ w3.1 w3.2
        clear hb hg
        generalize sg_v (r_G M) b = z at *
        generalize sg_v (r_G M) a.toNat = z2 at *
        generalize hy : (z2 + z).tdiv 2 = y at *
        unfold sg_c
        rcases x_lt y 0 with ⟨d1, d1_n⟩ | ⟨d1, d1_n⟩
        · rw [if_pos d1]
          rw [E_V_eq]
          show e_tv E_C (E_V 227) e_t227_36 [192, x1, a, x3, y4, y5, y6, y7, y8, y9] M = _
          unfold e_t227_36
          simp [zq_a, zq_b, zq_c, zq_d, zq_e, zq_f, zq_g, zq_h, zq_i, zq_j, zq_k, zq_l, zq_m, zq_n, zq_o, zq_p, zq_q, zq_r, zq_s, zq_t, zq_u, zq_v, zq_w, zq_x, zq_y, zq_z, zq_A, zq_B, zq_C, zq_D, zq_E, zq_F, zq_G, zq_H, zq_I, zq_J, zq_K, zq_L, ↓zq_M, ↓zq_N, ↓zq_O, ↓zq_P, ↓zq_Q, ↓zq_R, zq_S, zq_T, zq_U, zq_V, zq_W, zq_X, zq_Y, zq_Z, zq_0, zq_1, zq_2, zq_3, zq_4, zq_5, ↓zq_6, ↓zq_7, ↓zq_8, ↓zq_9, ↓zq_aa, zq_ab, zq_ac, zq_ad, zq_ae, zq_af, zq_ag, ↓zq_ah, ↓zq_ai, ↓zq_aj, zq_ak, ↓zq_al, ↓zq_am, e_b1, e_b2, x_o1, x_o2, r_O0, l0, q, q2, tb, la, lb, wa, wb, c1', w1, w2, hy, d1, d1_n]
        · rw [if_neg (by omega)]
          rcases x_lt 100 y with ⟨d2, d2_n⟩ | ⟨d2, d2_n⟩
          · rw [if_pos d2]
            rw [E_V_eq]
            show e_tv E_C (E_V 227) e_t227_36 [192, x1, a, x3, y4, y5, y6, y7, y8, y9] M = _
            unfold e_t227_36
            simp [zq_a, zq_b, zq_c, zq_d, zq_e, zq_f, zq_g, zq_h, zq_i, zq_j, zq_k, zq_l, zq_m, zq_n, zq_o, zq_p, zq_q, zq_r, zq_s, zq_t, zq_u, zq_v, zq_w, zq_x, zq_y, zq_z, zq_A, zq_B, zq_C, zq_D, zq_E, zq_F, zq_G, zq_H, zq_I, zq_J, zq_K, zq_L, ↓zq_M, ↓zq_N, ↓zq_O, ↓zq_P, ↓zq_Q, ↓zq_R, zq_S, zq_T, zq_U, zq_V, zq_W, zq_X, zq_Y, zq_Z, zq_0, zq_1, zq_2, zq_3, zq_4, zq_5, ↓zq_6, ↓zq_7, ↓zq_8, ↓zq_9, ↓zq_aa, zq_ab, zq_ac, zq_ad, zq_ae, zq_af, zq_ag, ↓zq_ah, ↓zq_ai, ↓zq_aj, zq_ak, ↓zq_al, ↓zq_am, e_b1, e_b2, x_o1, x_o2, r_O0, l0, q, q2, tb, la, lb, wa, wb, c1', w1, w2, hy, d1, d1_n, d2, d2_n]
          · rw [if_neg (by omega)]
            rw [E_V_eq]
            show e_tv E_C (E_V 227) e_t227_36 [192, x1, a, x3, y4, y5, y6, y7, y8, y9] M = _
            unfold e_t227_36
            simp [zq_a, zq_b, zq_c, zq_d, zq_e, zq_f, zq_g, zq_h, zq_i, zq_j, zq_k, zq_l, zq_m, zq_n, zq_o, zq_p, zq_q, zq_r, zq_s, zq_t, zq_u, zq_v, zq_w, zq_x, zq_y, zq_z, zq_A, zq_B, zq_C, zq_D, zq_E, zq_F, zq_G, zq_H, zq_I, zq_J, zq_K, zq_L, ↓zq_M, ↓zq_N, ↓zq_O, ↓zq_P, ↓zq_Q, ↓zq_R, zq_S, zq_T, zq_U, zq_V, zq_W, zq_X, zq_Y, zq_Z, zq_0, zq_1, zq_2, zq_3, zq_4, zq_5, ↓zq_6, ↓zq_7, ↓zq_8, ↓zq_9, ↓zq_aa, zq_ab, zq_ac, zq_ad, zq_ae, zq_af, zq_ag, ↓zq_ah, ↓zq_ai, ↓zq_aj, zq_ak, ↓zq_al, ↓zq_am, e_b1, e_b2, x_o1, x_o2, r_O0, l0, q, q2, tb, la, lb, wa, wb, c1', w1, w2, hy, w4, d1, d1_n, d2, d2_n]
      · rw [if_pos (show b = n by omega)]
        have q2 : x3 = nn := by omega
        obtain ⟨w1, w2, w3⟩ := sg_lw ba ba
        have w4 := cl _ w3.1 w3.2
        clear hb tb lb bb hg
        subst q2
        generalize sg_v (r_G M) a.toNat = z2 at *
        generalize hy : (z2 + z2).tdiv 2 = y at *
        unfold sg_c
        rcases x_lt y 0 with ⟨d1, d1_n⟩ | ⟨d1, d1_n⟩
        · rw [if_pos d1]
          rw [E_V_eq]
          show e_tv E_C (E_V 227) e_t227_36 [192, x1, a, x3, y4, y5, y6, y7, y8, y9] M = _
          unfold e_t227_36
          simp [zq_a, zq_b, zq_c, zq_d, zq_e, zq_f, zq_g, zq_h, zq_i, zq_j, zq_k, zq_l, zq_m, zq_n, zq_o, zq_p, zq_q, zq_r, zq_s, zq_t, zq_u, zq_v, zq_w, zq_x, zq_y, zq_z, zq_A, zq_B, zq_C, zq_D, zq_E, zq_F, zq_G, zq_H, zq_I, zq_J, zq_K, zq_L, ↓zq_M, ↓zq_N, ↓zq_O, ↓zq_P, ↓zq_Q, ↓zq_R, zq_S, zq_T, zq_U, zq_V, zq_W, zq_X, zq_Y, zq_Z, zq_0, zq_1, zq_2, zq_3, zq_4, zq_5, ↓zq_6, ↓zq_7, ↓zq_8, ↓zq_9, ↓zq_aa, zq_ab, zq_ac, zq_ad, zq_ae, zq_af, zq_ag, ↓zq_ah, ↓zq_ai, ↓zq_aj, zq_ak, ↓zq_al, ↓zq_am, e_b1, e_b2, x_o1, x_o2, r_O0, l0, la, wa, c1', w1, w2, hy, d1, d1_n]
        · rw [if_neg (by omega)]
          rcases x_lt 100 y with ⟨d2, d2_n⟩ | ⟨d2, d2_n⟩
          · rw [if_pos d2]
            rw [E_V_eq]
            show e_tv E_C (E_V 227) e_t227_36 [192, x1, a, x3, y4, y5, y6, y7, y8, y9] M = _
            unfold e_t227_36
            simp [zq_a, zq_b, zq_c, zq_d, zq_e, zq_f, zq_g, zq_h, zq_i, zq_j, zq_k, zq_l, zq_m, zq_n, zq_o, zq_p, zq_q, zq_r, zq_s, zq_t, zq_u, zq_v, zq_w, zq_x, zq_y, zq_z, zq_A, zq_B, zq_C, zq_D, zq_E, zq_F, zq_G, zq_H, zq_I, zq_J, zq_K, zq_L, ↓zq_M, ↓zq_N, ↓zq_O, ↓zq_P, ↓zq_Q, ↓zq_R, zq_S, zq_T, zq_U, zq_V, zq_W, zq_X, zq_Y, zq_Z, zq_0, zq_1, zq_2, zq_3, zq_4, zq_5, ↓zq_6, ↓zq_7, ↓zq_8, ↓zq_9, ↓zq_aa, zq_ab, zq_ac, zq_ad, zq_ae, zq_af, zq_ag, ↓zq_ah, ↓zq_ai, ↓zq_aj, zq_ak, ↓zq_al, ↓zq_am, e_b1, e_b2, x_o1, x_o2, r_O0, l0, la, wa, c1', w1, w2, hy, d1, d1_n, d2, d2_n]
          · rw [if_neg (by omega)]
            rw [E_V_eq]
            show e_tv E_C (E_V 227) e_t227_36 [192, x1, a, x3, y4, y5, y6, y7, y8, y9] M = _
            unfold e_t227_36
            simp [zq_a, zq_b, zq_c, zq_d, zq_e, zq_f, zq_g, zq_h, zq_i, zq_j, zq_k, zq_l, zq_m, zq_n, zq_o, zq_p, zq_q, zq_r, zq_s, zq_t, zq_u, zq_v, zq_w, zq_x, zq_y, zq_z, zq_A, zq_B, zq_C, zq_D, zq_E, zq_F, zq_G, zq_H, zq_I, zq_J, zq_K, zq_L, ↓zq_M, ↓zq_N, ↓zq_O, ↓zq_P, ↓zq_Q, ↓zq_R, zq_S, zq_T, zq_U, zq_V, zq_W, zq_X, zq_Y, zq_Z, zq_0, zq_1, zq_2, zq_3, zq_4, zq_5, ↓zq_6, ↓zq_7, ↓zq_8, ↓zq_9, ↓zq_aa, zq_ab, zq_ac, zq_ad, zq_ae, zq_af, zq_ag, ↓zq_ah, ↓zq_ai, ↓zq_aj, zq_ak, ↓zq_al, ↓zq_am, e_b1, e_b2, x_o1, x_o2, r_O0, l0, la, wa, c1', w1, w2, hy, w4, d1, d1_n, d2, d2_n]
  induction d with
  | zero =>
    intro b x3 hx hbn
    exact hend b x3 hx (by omega) (fun h => by omega)
  | succ d ih =>
    intro b x3 hx hbn
    show _ = some (sg_m n (sg_v (r_G M)) a (if sg_v (r_G M) b = h_lv (r_G M 1201) then sg_b (sg_v (r_G M)) (h_lv (r_G M 1201)) d (b + 1) else b), M)
    by_cases c : sg_v (r_G M) b = h_lv (r_G M 1201)
    · rw [if_pos c]
      have k := ih (b + 1) (x3 + 1) (by omega) (by omega)
      rw [← k]
      have tb := sg_226 (M := M) (x := x3) (i := b) hx (by omega)
      rw [if_pos c] at tb
      obtain ⟨nn, hnn⟩ : ∃ nn : Int, (n : Int) = nn := ⟨_, rfl⟩
      rw [hnn] at l0
      have q : x3 < nn := by omega
      have w : e_w (x3 + 1) = x3 + 1 := a_w_id (by omega) (by omega)
      clear ih hb k hend c
      rw [E_V_eq]
      show e_tv E_C (E_V 227) e_t227_36 [192, x1, a, x3, y4, y5, y6, y7, y8, y9] M = _
      unfold e_t227_36
      simp [zq_a, zq_b, zq_c, zq_d, zq_e, zq_f, zq_g, zq_h, zq_i, zq_j, zq_k, zq_l, zq_m, zq_n, zq_o, zq_p, zq_q, zq_r, zq_s, zq_t, zq_u, zq_v, zq_w, zq_x, zq_y, zq_z, zq_A, zq_B, zq_C, zq_D, zq_E, zq_F, zq_G, zq_H, zq_I, zq_J, zq_K, zq_L, ↓zq_M, ↓zq_N, ↓zq_O, ↓zq_P, ↓zq_Q, ↓zq_R, zq_S, zq_T, zq_U, zq_V, zq_W, zq_X, zq_Y, zq_Z, zq_0, zq_1, zq_2, zq_3, zq_4, zq_5, ↓zq_6, ↓zq_7, ↓zq_8, ↓zq_9, ↓zq_aa, zq_ab, zq_ac, zq_ad, zq_ae, zq_af, zq_ag, ↓zq_ah, ↓zq_ai, ↓zq_aj, zq_ak, ↓zq_al, ↓zq_am, e_b1, e_b2, x_o1, x_o2, r_O0, l0, q, w, tb]
    · rw [if_neg c]
      exact hend b x3 hx (by omega) (fun _ => c)
theorem sg_227 {x1 : Int} {k : Nat} (h6 : r_G M 1200 = n) (hn : n ≤ 120) (hb : ∀ i, -2147483648 ≤ sg_v (r_G M) i ∧ sg_v (r_G M) i ≤ 2147483647) (hk : x1 = k) : E_C 227 [192, x1] M = some (sg n (sg_v (r_G M)) (h_lv (r_G M 1201)) k, M) := by
  have l0 : e_op 60 [193, 1200] M = some (n : Int) := (r_rd (by decide) (by decide)).trans (by rw [h6])
  unfold sg
  rcases Nat.lt_or_ge k n with c | c
  · rw [if_neg (by omega)]
    have sa := sg_a_bd (v := sg_v (r_G M)) (gp := h_lv (r_G M 1201)) (k + 1)
    have m1 := sg_36 (x1 := x1) (y4 := 0) (y5 := 0) (y6 := 0) (y7 := 0) (y8 := 0) (y9 := 0) h6 hn hb ⟨sa.1, by omega⟩ (n - k) k x1 hk (by omega)
    have m0 := sg_18 (M := M) (x1 := x1) (x3 := x1) (y4 := 0) (y5 := 0) (y6 := 0) (y7 := 0) (y8 := 0) (y9 := 0) (k + 1) x1 (by omega) (by omega)
    have m2 := m0.trans m1
    obtain ⟨nn, hnn⟩ : ∃ nn : Int, (n : Int) = nn := ⟨_, rfl⟩
    rw [hnn] at l0
    have q1 : ¬ (nn ≤ x1) := by omega
    clear hb m0 m1 sa
    generalize sg_m n (sg_v (r_G M)) (sg_a (sg_v (r_G M)) (h_lv (r_G M 1201)) (k + 1)) (sg_b (sg_v (r_G M)) (h_lv (r_G M 1201)) (n - k) k) = z at *
    rw [r_ent (show e_rok 227 [192, x1] = true from decide_eq_true r_ref)]
    show e_tv E_C (E_V 227) e_t227_0 [192, x1, 0, 0, 0, 0, 0, 0, 0, 0] M = _
    unfold e_t227_0
    simp [zq_a, zq_b, zq_c, zq_d, zq_e, zq_f, zq_g, zq_h, zq_i, zq_j, zq_k, zq_l, zq_m, zq_n, zq_o, zq_p, zq_q, zq_r, zq_s, zq_t, zq_u, zq_v, zq_w, zq_x, zq_y, zq_z, zq_A, zq_B, zq_C, zq_D, zq_E, zq_F, zq_G, zq_H, zq_I, zq_J, zq_K, zq_L, ↓zq_M, ↓zq_N, ↓zq_O, ↓zq_P, ↓zq_Q, ↓zq_R, zq_S, zq_T, zq_U, zq_V, zq_W, zq_X, zq_Y, zq_Z, zq_0, zq_1, zq_2, zq_3, zq_4, zq_5, ↓zq_6, ↓zq_7, ↓zq_8, ↓zq_9, ↓zq_aa, zq_ab, zq_ac, zq_ad, zq_ae, zq_af, zq_ag, ↓zq_ah, ↓zq_ai, ↓zq_aj, zq_ak, ↓zq_al, ↓zq_am, e_b1, e_b2, x_o1, x_o2, r_O0, l0, q1, m2]
  · rw [if_pos c]
    obtain ⟨nn, hnn⟩ : ∃ nn : Int, (n : Int) = nn := ⟨_, rfl⟩
    rw [hnn] at l0
    have q1 : nn ≤ x1 := by omega
    clear hb
    rw [r_ent (show e_rok 227 [192, x1] = true from decide_eq_true r_ref)]
    show e_tv E_C (E_V 227) e_t227_0 [192, x1, 0, 0, 0, 0, 0, 0, 0, 0] M = _
    unfold e_t227_0
    simp [zq_a, zq_b, zq_c, zq_d, zq_e, zq_f, zq_g, zq_h, zq_i, zq_j, zq_k, zq_l, zq_m, zq_n, zq_o, zq_p, zq_q, zq_r, zq_s, zq_t, zq_u, zq_v, zq_w, zq_x, zq_y, zq_z, zq_A, zq_B, zq_C, zq_D, zq_E, zq_F, zq_G, zq_H, zq_I, zq_J, zq_K, zq_L, ↓zq_M, ↓zq_N, ↓zq_O, ↓zq_P, ↓zq_Q, ↓zq_R, zq_S, zq_T, zq_U, zq_V, zq_W, zq_X, zq_Y, zq_Z, zq_0, zq_1, zq_2, zq_3, zq_4, zq_5, ↓zq_6, ↓zq_7, ↓zq_8, ↓zq_9, ↓zq_aa, zq_ab, zq_ac, zq_ad, zq_ae, zq_af, zq_ag, ↓zq_ah, ↓zq_ai, ↓zq_aj, zq_ak, ↓zq_al, ↓zq_am, e_b1, e_b2, x_o1, x_o2, r_O0, l0, q1]
end SG
/-- strength of HOUR h of DAY d -/
def ax_G (g : Int → Int) (d h : Int) : Int := sg (g 1200).toNat (sg_v g) (h_lv (g 1201)) (12 * d + h).toNat
section AXS
variable {M M1 M2 : EM} {d h r1 r2 x : Int}
theorem ax_77 (hK : h_K M 0 (r_G M)) (hW : r_W (r_G M)) (hM : a_M M) (hd : 0 ≤ d ∧ d ≤ 9) (hh : 0 ≤ h ∧ h ≤ 11) (hx : x = 12 * d + h) : E_C 77 [26, x] M = some (ax_G (r_G M) d h, M) := by
  obtain ⟨k6, k7, k32⟩ := hK
  have z := hW.2.2.2.2.2.2
  exact sg_77 (n := (r_G M 1200).toNat) (k := (12 * d + h).toNat) (by rw [show M 26 6 = r_G M 1200 from k6]; omega) (by omega) (fun h => k7 (by omega)) k32 (fun i => r_gr hM _) (by omega)
theorem ax_227 {g : Int → Int} (hG : r_G M = g) (hW : r_W g) (hM : a_M M) (hd : 0 ≤ d ∧ d ≤ 9) (hh : 0 ≤ h ∧ h ≤ 11) (hx : x = 12 * d + h) : E_C 227 [192, x] M = some (ax_G g d h, M) := by
  subst hG
  have z := hW.2.2.2.2.2.2
  exact sg_227 (n := (r_G M 1200).toNat) (k := (12 * d + h).toNat) (by omega) (by omega) (fun i => r_gr hM _) (by omega)
theorem ax_day (x : Int) (M : EM) : E_C 152 [x] M = some (if 0 ≤ x ∧ x ≤ 9 then 1 else 0, M) := by
  have s0 : E_C 152 [x] M = e_tv E_C (E_V 152) e_t152_0 [x] M := r_ent (u := 152) (as := [x]) (M := M) rfl
  rw [s0]
  unfold e_t152_0
  rcases x_le 0 x with ⟨c0, c0_n⟩ | ⟨c0, c0_n⟩
  · rcases x_lt x 10 with ⟨c1, c1_n⟩ | ⟨c1, c1_n⟩
    · rw [if_pos ⟨c0, by omega⟩]
      simp [zq_a, zq_b, zq_c, zq_d, zq_e, zq_f, zq_g, zq_h, zq_i, zq_j, zq_k, zq_l, zq_m, zq_n, zq_o, zq_p, zq_q, zq_r, zq_s, zq_t, zq_u, zq_v, zq_w, zq_x, zq_y, zq_z, zq_A, zq_B, zq_C, zq_D, zq_E, zq_F, zq_G, zq_H, zq_I, zq_J, zq_K, zq_L, ↓zq_M, ↓zq_N, ↓zq_O, ↓zq_P, ↓zq_Q, ↓zq_R, zq_S, zq_T, zq_U, zq_V, zq_W, zq_X, zq_Y, zq_Z, zq_0, zq_1, zq_2, zq_3, zq_4, zq_5, ↓zq_6, ↓zq_7, ↓zq_8, ↓zq_9, ↓zq_aa, zq_ab, zq_ac, zq_ad, zq_ae, zq_af, zq_ag, ↓zq_ah, ↓zq_ai, ↓zq_aj, zq_ak, ↓zq_al, ↓zq_am, e_b1, e_b2, x_o1, x_o2, c0, c0_n, c1, c1_n]
    · rw [if_neg (fun e => by omega)]
      simp [zq_a, zq_b, zq_c, zq_d, zq_e, zq_f, zq_g, zq_h, zq_i, zq_j, zq_k, zq_l, zq_m, zq_n, zq_o, zq_p, zq_q, zq_r, zq_s, zq_t, zq_u, zq_v, zq_w, zq_x, zq_y, zq_z, zq_A, zq_B, zq_C, zq_D, zq_E, zq_F, zq_G, zq_H, zq_I, zq_J, zq_K, zq_L, ↓zq_M, ↓zq_N, ↓zq_O, ↓zq_P, ↓zq_Q, ↓zq_R, zq_S, zq_T, zq_U, zq_V, zq_W, zq_X, zq_Y, zq_Z, zq_0, zq_1, zq_2, zq_3, zq_4, zq_5, ↓zq_6, ↓zq_7, ↓zq_8, ↓zq_9, ↓zq_aa, zq_ab, zq_ac, zq_ad, zq_ae, zq_af, zq_ag, ↓zq_ah, ↓zq_ai, ↓zq_aj, zq_ak, ↓zq_al, ↓zq_am, e_b1, e_b2, x_o1, x_o2, c0, c0_n, c1, c1_n]
  · rw [if_neg (fun e => by omega)]
    simp [zq_a, zq_b, zq_c, zq_d, zq_e, zq_f, zq_g, zq_h, zq_i, zq_j, zq_k, zq_l, zq_m, zq_n, zq_o, zq_p, zq_q, zq_r, zq_s, zq_t, zq_u, zq_v, zq_w, zq_x, zq_y, zq_z, zq_A, zq_B, zq_C, zq_D, zq_E, zq_F, zq_G, zq_H, zq_I, zq_J, zq_K, zq_L, ↓zq_M, ↓zq_N, ↓zq_O, ↓zq_P, ↓zq_Q, ↓zq_R, zq_S, zq_T, zq_U, zq_V, zq_W, zq_X, zq_Y, zq_Z, zq_0, zq_1, zq_2, zq_3, zq_4, zq_5, ↓zq_6, ↓zq_7, ↓zq_8, ↓zq_9, ↓zq_aa, zq_ab, zq_ac, zq_ad, zq_ae, zq_af, zq_ag, ↓zq_ah, ↓zq_ai, ↓zq_aj, zq_ak, ↓zq_al, ↓zq_am, e_b1, e_b2, x_o1, x_o2, c0, c0_n]
theorem ax_strength (hK : h_K M 0 (r_G M)) (hM : a_M M) (J1 : r_J M1) (hfr : ∀ i, M1 193 i = M 193 i) (k1 : E_C 122 [8, d, h] M = some (r1, M1)) (k2 : E_C 228 [192, d, h] M1 = some (r2, M2)) : r1 = r2 ∧ True := by
  have eG : r_G M1 = r_G M := funext fun i => hfr _
  have hW := (r_J_E J1).2.1
  have hW0 := hW
  rw [eG] at hW0
  have s0 : E_C 122 [8, d, h] M = e_tv E_C (E_V 122) e_t122_0 [8, d, h] M := r_ent (u := 122) (as := [8, d, h]) (M := M) (decide_eq_true c_this)
  have id := ax_day d M
  have ih := p_hour h M
  by_cases cd : 0 ≤ d ∧ d ≤ 9
  · rw [if_pos cd] at id
    have i1 := r_in1 (M := M1) cd
    by_cases ch : 0 ≤ h ∧ h ≤ 11
    · rw [if_pos ch] at ih
      have i2 := r_in1 (M := M1) ch
      have ka := ax_77 hK hW0 hM cd ch rfl
      have kb := ax_227 eG hW0 J1.1 cd ch rfl
      have w1 : e_w (d * 12) = d * 12 := a_w_id (by omega) (by omega)
      have w2 : e_w (12 * d) = 12 * d := a_w_id (by omega) (by omega)
      have w3 : e_w (d * 12 + h) = 12 * d + h := (a_w_id (by omega) (by omega)).trans (by omega)
      have w4 : e_w (12 * d + h) = 12 * d + h := a_w_id (by omega) (by omega)
      have a1 : E_C 122 [8, d, h] M = some (ax_G (r_G M) d h, M) := by
        rw [s0]
        unfold e_t122_0
        clear kb hK hM J1 hW hW0 k1 k2
        generalize ax_G (r_G M) d h = z at *
        simp [zq_a, zq_b, zq_c, zq_d, zq_e, zq_f, zq_g, zq_h, zq_i, zq_j, zq_k, zq_l, zq_m, zq_n, zq_o, zq_p, zq_q, zq_r, zq_s, zq_t, zq_u, zq_v, zq_w, zq_x, zq_y, zq_z, zq_A, zq_B, zq_C, zq_D, zq_E, zq_F, zq_G, zq_H, zq_I, zq_J, zq_K, zq_L, ↓zq_M, ↓zq_N, ↓zq_O, ↓zq_P, ↓zq_Q, ↓zq_R, zq_S, zq_T, zq_U, zq_V, zq_W, zq_X, zq_Y, zq_Z, zq_0, zq_1, zq_2, zq_3, zq_4, zq_5, ↓zq_6, ↓zq_7, ↓zq_8, ↓zq_9, ↓zq_aa, zq_ab, zq_ac, zq_ad, zq_ae, zq_af, zq_ag, ↓zq_ah, ↓zq_ai, ↓zq_aj, zq_ak, ↓zq_al, ↓zq_am, e_b1, e_b2, x_o1, x_o2, p_704, p_195, id, ih, w1, w3, ka]
      have b1 : E_C 228 [192, d, h] M1 = some (ax_G (r_G M) d h, M1) := by
        clear ka hK hM J1 hW hW0 k1 k2 a1
        generalize ax_G (r_G M) d h = z at *
        rw [r_ent (show e_rok 228 [192, d, h] = true from decide_eq_true r_ref)]
        show e_tv E_C (E_V 228) e_t228_0 [192, d, h] M1 = _
        unfold e_t228_0
        simp [zq_a, zq_b, zq_c, zq_d, zq_e, zq_f, zq_g, zq_h, zq_i, zq_j, zq_k, zq_l, zq_m, zq_n, zq_o, zq_p, zq_q, zq_r, zq_s, zq_t, zq_u, zq_v, zq_w, zq_x, zq_y, zq_z, zq_A, zq_B, zq_C, zq_D, zq_E, zq_F, zq_G, zq_H, zq_I, zq_J, zq_K, zq_L, ↓zq_M, ↓zq_N, ↓zq_O, ↓zq_P, ↓zq_Q, ↓zq_R, zq_S, zq_T, zq_U, zq_V, zq_W, zq_X, zq_Y, zq_Z, zq_0, zq_1, zq_2, zq_3, zq_4, zq_5, ↓zq_6, ↓zq_7, ↓zq_8, ↓zq_9, ↓zq_aa, zq_ab, zq_ac, zq_ad, zq_ae, zq_af, zq_ag, ↓zq_ah, ↓zq_ai, ↓zq_aj, zq_ak, ↓zq_al, ↓zq_am, e_b1, e_b2, x_o1, x_o2, i1, i2, w2, w4, kb]
      obtain ⟨e1, e2⟩ := Prod.mk.inj (Option.some.inj (k1.symm.trans a1))
      obtain ⟨f1, f2⟩ := Prod.mk.inj (Option.some.inj (k2.symm.trans b1))
      exact ⟨e1.trans f1.symm, trivial⟩
    · rw [if_neg ch] at ih
      have i2 := r_in0 (M := M1) ch
      have a1 : E_C 122 [8, d, h] M = some (-1, M) := by
        rw [s0]
        unfold e_t122_0
        simp [zq_a, zq_b, zq_c, zq_d, zq_e, zq_f, zq_g, zq_h, zq_i, zq_j, zq_k, zq_l, zq_m, zq_n, zq_o, zq_p, zq_q, zq_r, zq_s, zq_t, zq_u, zq_v, zq_w, zq_x, zq_y, zq_z, zq_A, zq_B, zq_C, zq_D, zq_E, zq_F, zq_G, zq_H, zq_I, zq_J, zq_K, zq_L, ↓zq_M, ↓zq_N, ↓zq_O, ↓zq_P, ↓zq_Q, ↓zq_R, zq_S, zq_T, zq_U, zq_V, zq_W, zq_X, zq_Y, zq_Z, zq_0, zq_1, zq_2, zq_3, zq_4, zq_5, ↓zq_6, ↓zq_7, ↓zq_8, ↓zq_9, ↓zq_aa, zq_ab, zq_ac, zq_ad, zq_ae, zq_af, zq_ag, ↓zq_ah, ↓zq_ai, ↓zq_aj, zq_ak, ↓zq_al, ↓zq_am, e_b1, e_b2, x_o1, x_o2, id, ih]
      have b1 : E_C 228 [192, d, h] M1 = some (-1, M1) := by
        rw [r_ent (show e_rok 228 [192, d, h] = true from decide_eq_true r_ref)]
        show e_tv E_C (E_V 228) e_t228_0 [192, d, h] M1 = _
        unfold e_t228_0
        simp [zq_a, zq_b, zq_c, zq_d, zq_e, zq_f, zq_g, zq_h, zq_i, zq_j, zq_k, zq_l, zq_m, zq_n, zq_o, zq_p, zq_q, zq_r, zq_s, zq_t, zq_u, zq_v, zq_w, zq_x, zq_y, zq_z, zq_A, zq_B, zq_C, zq_D, zq_E, zq_F, zq_G, zq_H, zq_I, zq_J, zq_K, zq_L, ↓zq_M, ↓zq_N, ↓zq_O, ↓zq_P, ↓zq_Q, ↓zq_R, zq_S, zq_T, zq_U, zq_V, zq_W, zq_X, zq_Y, zq_Z, zq_0, zq_1, zq_2, zq_3, zq_4, zq_5, ↓zq_6, ↓zq_7, ↓zq_8, ↓zq_9, ↓zq_aa, zq_ab, zq_ac, zq_ad, zq_ae, zq_af, zq_ag, ↓zq_ah, ↓zq_ai, ↓zq_aj, zq_ak, ↓zq_al, ↓zq_am, e_b1, e_b2, x_o1, x_o2, i1, i2]
      obtain ⟨e1, e2⟩ := Prod.mk.inj (Option.some.inj (k1.symm.trans a1))
      obtain ⟨f1, f2⟩ := Prod.mk.inj (Option.some.inj (k2.symm.trans b1))
      exact ⟨e1.trans f1.symm, trivial⟩
  · rw [if_neg cd] at id
    have i1 := r_in0 (M := M1) cd
    have a1 : E_C 122 [8, d, h] M = some (-1, M) := by
      rw [s0]
      unfold e_t122_0
      simp [zq_a, zq_b, zq_c, zq_d, zq_e, zq_f, zq_g, zq_h, zq_i, zq_j, zq_k, zq_l, zq_m, zq_n, zq_o, zq_p, zq_q, zq_r, zq_s, zq_t, zq_u, zq_v, zq_w, zq_x, zq_y, zq_z, zq_A, zq_B, zq_C, zq_D, zq_E, zq_F, zq_G, zq_H, zq_I, zq_J, zq_K, zq_L, ↓zq_M, ↓zq_N, ↓zq_O, ↓zq_P, ↓zq_Q, ↓zq_R, zq_S, zq_T, zq_U, zq_V, zq_W, zq_X, zq_Y, zq_Z, zq_0, zq_1, zq_2, zq_3, zq_4, zq_5, ↓zq_6, ↓zq_7, ↓zq_8, ↓zq_9, ↓zq_aa, zq_ab, zq_ac, zq_ad, zq_ae, zq_af, zq_ag, ↓zq_ah, ↓zq_ai, ↓zq_aj, zq_ak, ↓zq_al, ↓zq_am, e_b1, e_b2, x_o1, x_o2, id]
    have b1 : E_C 228 [192, d, h] M1 = some (-1, M1) := by
      rw [r_ent (show e_rok 228 [192, d, h] = true from decide_eq_true r_ref)]
      show e_tv E_C (E_V 228) e_t228_0 [192, d, h] M1 = _
      unfold e_t228_0
      simp [zq_a, zq_b, zq_c, zq_d, zq_e, zq_f, zq_g, zq_h, zq_i, zq_j, zq_k, zq_l, zq_m, zq_n, zq_o, zq_p, zq_q, zq_r, zq_s, zq_t, zq_u, zq_v, zq_w, zq_x, zq_y, zq_z, zq_A, zq_B, zq_C, zq_D, zq_E, zq_F, zq_G, zq_H, zq_I, zq_J, zq_K, zq_L, ↓zq_M, ↓zq_N, ↓zq_O, ↓zq_P, ↓zq_Q, ↓zq_R, zq_S, zq_T, zq_U, zq_V, zq_W, zq_X, zq_Y, zq_Z, zq_0, zq_1, zq_2, zq_3, zq_4, zq_5, ↓zq_6, ↓zq_7, ↓zq_8, ↓zq_9, ↓zq_aa, zq_ab, zq_ac, zq_ad, zq_ae, zq_af, zq_ag, ↓zq_ah, ↓zq_ai, ↓zq_aj, zq_ak, ↓zq_al, ↓zq_am, e_b1, e_b2, x_o1, x_o2, i1]
    obtain ⟨e1, e2⟩ := Prod.mk.inj (Option.some.inj (k1.symm.trans a1))
    obtain ⟨f1, f2⟩ := Prod.mk.inj (Option.some.inj (k2.symm.trans b1))
    exact ⟨e1.trans f1.symm, trivial⟩
end AXS
