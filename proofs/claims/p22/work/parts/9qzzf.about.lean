section
/-! about, faults: the two answers -/
theorem gd_n_add {D : Nat → Int} {a : Nat} : ∀ m, gd_n D (a + m) = gd_n D a + gd_n (fun y => D (a + y)) m := by
  intro m
  induction m with
  | zero => rfl
  | succ m ih =>
    show gd_n D (a + m) + (if D (a + m) ≠ 0 then 1 else 0) = gd_n D a + (gd_n (fun y => D (a + y)) m + (if D (a + m) ≠ 0 then 1 else 0))
    omega
/-- the class's bench: how many DIODES -/
theorem dd_6 {M : EM} {n : Nat} (h4 : M 170 4 = n) (hn : n ≤ 40) (h01 : ∀ y, y < n → M 172 y = 0 ∨ M 172 y = 1) : E_C 6 [170] M = some ((gd_n (fun y => M 172 y) n : Int), M) := by
  have lp : ∀ (d m : Nat) (x1 x2 : Int), x2 = m → m + d = n → x1 = (gd_n (fun y => M 172 y) m : Int) → E_V 6 4 [170, x1, x2] M = some ((gd_n (fun y => M 172 y) n : Int), M) := by
    intro d
    induction d with
    | zero =>
      intro m x1 x2 hx hm h1
      have e : m = n := by omega
      subst e
      rw [← h1]
      rw [← hx] at h4
      have q : ¬ (x2 < x2) := by omega
      clear h01
      rw [E_V_eq]
      show e_tv E_C (E_V 6) e_t6_4 [170, x1, x2] M = _
      unfold e_t6_4
      simp [zq_a, zq_b, zq_c, zq_d, zq_e, zq_f, zq_g, zq_h, zq_i, zq_j, zq_k, zq_l, zq_m, zq_n, zq_o, zq_p, zq_q, zq_r, zq_s, zq_t, zq_u, zq_v, zq_w, zq_x, zq_y, zq_z, zq_A, zq_B, zq_C, zq_D, zq_E, zq_F, zq_G, zq_H, zq_I, zq_J, zq_K, zq_L, ↓zq_M, ↓zq_N, ↓zq_O, ↓zq_P, ↓zq_Q, ↓zq_R, zq_S, zq_T, zq_U, zq_V, zq_W, zq_X, zq_Y, zq_Z, zq_0, zq_1, zq_2, zq_3, zq_4, zq_5, ↓zq_6, ↓zq_7, ↓zq_8, ↓zq_9, ↓zq_aa, zq_ab, zq_ac, zq_ad, zq_ae, zq_af, zq_ag, ↓zq_ah, ↓zq_ai, ↓zq_aj, zq_ak, ↓zq_al, ↓zq_am, e_b1, e_b2, x_o1, x_o2, bx_F4, h4, q]
    | succ d ih =>
      intro m x1 x2 hx hm h1
      have t : E_C 146 [172, x2] M = some (M 172 m, M) := w_atN (a := 172) (n := 40) (by decide +kernel) (j := m) hx (by omega) M
      have gl := gd_n_le (D := fun y => M 172 y) m
      have es : ((gd_n (fun y => M 172 y) (m + 1) : Nat) : Int) = x1 + M 172 m := by
        rcases h01 m (by omega) with z | z
        · rw [gd_n_0 z, z, h1, Int.add_zero]
        · rw [gd_n_1 (D := fun y => M 172 y) (m := m) (by show M 172 m ≠ 0; omega), z, h1]
          omega
      have hz := h01 m (by omega)
      have k := ih (m + 1) (x1 + M 172 m) (x2 + 1) (by omega) (by omega) es.symm
      rw [← k]
      obtain ⟨nn, hnn⟩ : ∃ nn : Int, (n : Int) = nn := ⟨_, rfl⟩
      rw [hnn] at h4
      have q : x2 < nn := by omega
      have w1 : e_w (x2 + 1) = x2 + 1 := a_w_id (by omega) (by omega)
      have w2 : e_w (x1 + M 172 m) = x1 + M 172 m := a_w_id (by omega) (by omega)
      clear k ih es h1 h01 gl hz
      generalize M 172 m = z at *
      rw [E_V_eq]
      show e_tv E_C (E_V 6) e_t6_4 [170, x1, x2] M = _
      unfold e_t6_4
      simp [zq_a, zq_b, zq_c, zq_d, zq_e, zq_f, zq_g, zq_h, zq_i, zq_j, zq_k, zq_l, zq_m, zq_n, zq_o, zq_p, zq_q, zq_r, zq_s, zq_t, zq_u, zq_v, zq_w, zq_x, zq_y, zq_z, zq_A, zq_B, zq_C, zq_D, zq_E, zq_F, zq_G, zq_H, zq_I, zq_J, zq_K, zq_L, ↓zq_M, ↓zq_N, ↓zq_O, ↓zq_P, ↓zq_Q, ↓zq_R, zq_S, zq_T, zq_U, zq_V, zq_W, zq_X, zq_Y, zq_Z, zq_0, zq_1, zq_2, zq_3, zq_4, zq_5, ↓zq_6, ↓zq_7, ↓zq_8, ↓zq_9, ↓zq_aa, zq_ab, zq_ac, zq_ad, zq_ae, zq_af, zq_ag, ↓zq_ah, ↓zq_ai, ↓zq_aj, zq_ak, ↓zq_al, ↓zq_am, e_b1, e_b2, x_o1, x_o2, bx_F4, bx_G9, h4, q, w1, w2, t]
  have k := lp n 0 0 0 rfl (by omega) rfl
  rw [r_ent (show e_rok 6 [170] = true from bx_r (M := M) rfl (by decide +kernel))]
  show e_tv E_C (E_V 6) e_t6_0 [170, 0, 0] M = _
  unfold e_t6_0
  generalize ((gd_n (fun y => M 172 y) n : Nat) : Int) = z at k ⊢
  simp [zq_a, zq_b, zq_c, zq_d, zq_e, zq_f, zq_g, zq_h, zq_i, zq_j, zq_k, zq_l, zq_m, zq_n, zq_o, zq_p, zq_q, zq_r, zq_s, zq_t, zq_u, zq_v, zq_w, zq_x, zq_y, zq_z, zq_A, zq_B, zq_C, zq_D, zq_E, zq_F, zq_G, zq_H, zq_I, zq_J, zq_K, zq_L, ↓zq_M, ↓zq_N, ↓zq_O, ↓zq_P, ↓zq_Q, ↓zq_R, zq_S, zq_T, zq_U, zq_V, zq_W, zq_X, zq_Y, zq_Z, zq_0, zq_1, zq_2, zq_3, zq_4, zq_5, ↓zq_6, ↓zq_7, ↓zq_8, ↓zq_9, ↓zq_aa, zq_ab, zq_ac, zq_ad, zq_ae, zq_af, zq_ag, ↓zq_ah, ↓zq_ai, ↓zq_aj, zq_ak, ↓zq_al, ↓zq_am, e_b1, e_b2, x_o1, x_o2, k]
/-- DIODES of the bench, line by line -/
theorem dd_sum {g : Int → Int} {M N : EM} {X : Nat → Int} {L : Nat} (hS : bx_SP g M N X L) (ok : ∀ l, l < L → bx_ok M g (X l)) : ∀ i, i ≤ L → gd_n (fun y => N 172 y) (bx_og g X i) = ga_od g X i := by
  obtain ⟨-, -, -, -, -, s6, -, -, -⟩ := hS
  intro i
  induction i with
  | zero => intro _; rfl
  | succ i ih =>
    intro hi
    show gd_n (fun y => N 172 y) (bx_og g X i + bx_ng g (X i)) = ga_od g X i + ga_nd g (X i)
    rw [gd_n_add, ih (by omega)]
    have z := fun y hy => s6 i y (by omega) hy
    obtain ⟨x, hx, hxl, hk⟩ := ok i (by omega)
    rw [hx] at z ⊢
    rcases hk with k0 | ⟨k1, n, gr, hd⟩
    · have eg : bx_ng g (x : Int) = 1 := if_pos k0
      have ed : ga_nd g (x : Int) = 0 := if_pos k0
      have e0 : bx_di g (x : Int) 0 = 0 := if_pos k0
      rw [eg] at z ⊢
      rw [ed]
      have z0 := z 0 (by decide)
      rw [e0] at z0
      rw [gd_n_0 (D := fun y => N 172 (bx_og g X i + y)) (m := 0) z0]
      rfl
    · have kn : ¬ g (28 * (x : Int)) = 0 := by omega
      have eg : bx_ng g (x : Int) = (g (28 * (x : Int) + 19)).toNat := if_neg kn
      have ed : ga_nd g (x : Int) = gd_n (ga_D g (x : Int)) (g (28 * (x : Int) + 19)).toNat := if_neg kn
      rw [eg] at z ⊢
      rw [ed]
      rw [gd_n_cg (D := ga_D g (x : Int)) (D' := fun y => N 172 (bx_og g X i + y)) _ (fun y hy => by
        show N 172 (bx_og g X i + y) ≠ 0 ↔ ga_D g (x : Int) y ≠ 0
        rw [z y hy, show bx_di g (x : Int) y = ga_D g (x : Int) y from if_neg kn])]
theorem dd_01 {g SH WM : Int → Int} {N : EM} {X : Nat → Int} {L : Nat} (hN : bx_ND g SH WM (hd_DI g) X L N) : ∀ i, i ≤ L → ∀ y, y < bx_og g X i → N 172 y = 0 ∨ N 172 y = 1 := by
  obtain ⟨-, -, -, -, -, n6⟩ := hN
  intro i
  induction i with
  | zero => intro _ y hy; exact absurd hy (Nat.not_lt_zero _)
  | succ i ih =>
    intro hi y hy
    have hy : y < bx_og g X i + bx_ng g (X i) := hy
    rcases Nat.lt_or_ge y (bx_og g X i) with c | c
    · exact ih (by omega) y c
    · have z := n6 i (y - bx_og g X i) (by omega) (by omega)
      rw [show bx_og g X i + (y - bx_og g X i) = y by omega] at z
      rw [z]
      unfold hd_DI
      split
      · exact Or.inl rfl
      · split
        · exact Or.inr rfl
        · exact Or.inl rfl
def ax_nc (g : Int → Int) (p : Int) : Nat := bx_oc g (cu_ln g (cu_in g p)) (cu_nl g (cu_in g p))
def ax_nd (g : Int → Int) (p : Int) : Nat := ga_od g (cu_ln g (cu_in g p)) (cu_nl g (cu_in g p))
/-- the class's bench: all that is counted -/
theorem ax_1d {M : EM} {p : Nat} (h : hd_all M) (hp : (p : Int) < r_G M 1198) : ∃ N, E_C 1 [170, (p : Int)] M = some (0, N) ∧ N 170 0 = (ax_nc (r_G M) (p : Int) : Int) ∧ E_C 6 [170] N = some ((ax_nd (r_G M) (p : Int) : Int), N) ∧ ax_nc (r_G M) (p : Int) ≤ 40 ∧ ax_nd (r_G M) (p : Int) ≤ 40 ∧ N 171 0 = 0 := by
  obtain ⟨N, k, hX, hS, hN, h7, e, h0⟩ := ax_1 h hp
  have d := dd_6 (M := N) hS.2.1 hX.2.2.2 (dd_01 hN _ (Nat.le_refl _))
  rw [dd_sum hS hX.2.1 _ (Nat.le_refl _)] at d
  exact ⟨N, k, hN.2.1, d, hX.2.2.1, Nat.le_trans (ga_od_le _) hX.2.2.2, h0⟩
theorem ax_cap {M : EM} (h : hd_all M) : ∀ p, (ax_nc (r_G M) p ≤ 40 ∧ ax_nd (r_G M) p ≤ 40) ∨ ¬ (0 ≤ p ∧ p < r_G M 1198) := by
  intro p
  by_cases c : 0 ≤ p ∧ p < r_G M 1198
  · obtain ⟨q, rfl⟩ : ∃ q : Nat, p = q := ⟨p.toNat, by omega⟩
    obtain ⟨N, -, -, -, a, b, -⟩ := ax_1d h c.2
    exact Or.inl ⟨a, b⟩
  · exact Or.inr c
section AXJ
variable {M M1 M2 : EM} {p w r1 r2 : Int}
def ax_A (g : Int → Int) (p w : Int) : Int := if w = 0 then g (28 * p) else if w = 1 then (ax_nc g p : Int) else if w = 2 then (ax_nd g p : Int) else if w = 3 then (if g (28 * p) = 1 then g (28 * p + 19) else g (28 * p + 2)) else if g (28 * p + 1) = 0 then -4 else g (28 * p + 1) - 1
theorem ax_105 (h : hd_all M) : ∃ r M', E_C 105 [8, p, w] M = some (r, M') ∧ M' 171 0 = 0 ∧ r = if (0 ≤ p ∧ p < r_G M 1198) ∧ 0 ≤ w ∧ w ≤ 4 then ax_A (r_G M) p w else -1 := by
  have hB := h.1
  have h10 : M 10 0 = r_G M 1198 := hB.1
  have i := h_149 (k := p) (M := M)
  rw [h10] at i
  have s0 : E_C 105 [8, p, w] M = e_tv E_C (E_V 105) e_t105_0 [8, p, w, 0, 0] M := r_ent (u := 105) (as := [8, p, w]) (M := M) (decide_eq_true c_this)
  rw [s0]
  unfold e_t105_0
  by_cases c : 0 ≤ p ∧ p < r_G M 1198
  · rw [if_pos c] at i
    rcases x_le 0 w with ⟨c0, c0_n⟩ | ⟨c0, c0_n⟩
    · rcases x_lt 4 w with ⟨c2, c2_n⟩ | ⟨c2, c2_n⟩
      · refine ⟨-1, M, ?_, h.2.2.2, (if_neg (fun e => by omega)).symm⟩
        simp [zq_a, zq_b, zq_c, zq_d, zq_e, zq_f, zq_g, zq_h, zq_i, zq_j, zq_k, zq_l, zq_m, zq_n, zq_o, zq_p, zq_q, zq_r, zq_s, zq_t, zq_u, zq_v, zq_w, zq_x, zq_y, zq_z, zq_A, zq_B, zq_C, zq_D, zq_E, zq_F, zq_G, zq_H, zq_I, zq_J, zq_K, zq_L, ↓zq_M, ↓zq_N, ↓zq_O, ↓zq_P, ↓zq_Q, ↓zq_R, zq_S, zq_T, zq_U, zq_V, zq_W, zq_X, zq_Y, zq_Z, zq_0, zq_1, zq_2, zq_3, zq_4, zq_5, ↓zq_6, ↓zq_7, ↓zq_8, ↓zq_9, ↓zq_aa, zq_ab, zq_ac, zq_ad, zq_ae, zq_af, zq_ag, ↓zq_ah, ↓zq_ai, ↓zq_aj, zq_ak, ↓zq_al, ↓zq_am, e_b1, e_b2, x_o1, x_o2, i, c0, c0_n, c2, c2_n]
      · rw [if_pos ⟨c, c0, by omega⟩]
        obtain ⟨q, rfl⟩ : ∃ q : Nat, p = q := ⟨p.toNat, by omega⟩
        have q40 : q < 40 := by have := hB.2.1.2; omega
        obtain ⟨b1, b2, b3, b4⟩ := hB.2.2 q c.2
        have b1 : M 11 q = r_G M (28 * (q : Int)) := b1
        have b2 : M 13 q = r_G M (28 * (q : Int) + 1) - 1 := b2
        have t1 : E_C 146 [11, (q : Int)] M = some (r_G M (28 * (q : Int)), M) := (w_atN (a := 11) (n := 40) (by decide +kernel) (j := q) rfl q40 M).trans (by rw [← b1]; rfl)
        have t3 : E_C 146 [13, (q : Int)] M = some (r_G M (28 * (q : Int) + 1) - 1, M) := (w_atN (a := 13) (n := 40) (by decide +kernel) (j := q) rfl q40 M).trans (by rw [← b2]; rfl)
        have e12 : M 12 q = if r_G M (28 * (q : Int)) = 1 then r_G M (28 * (q : Int) + 19) else r_G M (28 * (q : Int) + 2) := by
          obtain ⟨d0, d1, d2, d3⟩ := h.2.2.1 q c.2
          by_cases k1 : r_G M (28 * (q : Int)) = 1
          · obtain ⟨n, gr, -, -, -, a4, a5, -⟩ := d1 k1
            rw [if_pos k1, a4]
            exact a5
          · rw [if_neg k1]
            by_cases k0 : r_G M (28 * (q : Int)) = 0
            · exact (d0 k0).2.1
            · by_cases k2 : r_G M (28 * (q : Int)) = 2
              · obtain ⟨n, -, a2, -, a4, -⟩ := d2 k2
                rw [a2]
                exact a4
              · obtain ⟨⟨a1, -, a3, -⟩, -⟩ := d3 (by omega)
                rw [a1]
                exact a3
        have t2 : E_C 146 [12, (q : Int)] M = some (if r_G M (28 * (q : Int)) = 1 then r_G M (28 * (q : Int) + 19) else r_G M (28 * (q : Int) + 2), M) := (w_atN (a := 12) (n := 40) (by decide +kernel) (j := q) rfl q40 M).trans (by rw [← e12]; rfl)
        obtain ⟨N, k, n0, k6, -, -, z0⟩ := ax_1d h c.2
        have h0 := h.2.2.2
        unfold ax_A
        clear e12 h hB h10 b1 b2
        generalize (if r_G M (28 * (q : Int)) = 1 then r_G M (28 * (q : Int) + 19) else r_G M (28 * (q : Int) + 2)) = v2 at t2 ⊢
        generalize (ax_nc (r_G M) (q : Int) : Int) = v3 at n0 ⊢
        generalize (ax_nd (r_G M) (q : Int) : Int) = v4 at k6 ⊢
        generalize r_G M (28 * (q : Int)) = v0 at *
        generalize r_G M (28 * (q : Int) + 1) = v1 at *
        by_cases w0 : w = 0
        · subst w0
          refine ⟨v0, M, ?_, h0, (if_pos rfl).symm⟩
          simp [zq_a, zq_b, zq_c, zq_d, zq_e, zq_f, zq_g, zq_h, zq_i, zq_j, zq_k, zq_l, zq_m, zq_n, zq_o, zq_p, zq_q, zq_r, zq_s, zq_t, zq_u, zq_v, zq_w, zq_x, zq_y, zq_z, zq_A, zq_B, zq_C, zq_D, zq_E, zq_F, zq_G, zq_H, zq_I, zq_J, zq_K, zq_L, ↓zq_M, ↓zq_N, ↓zq_O, ↓zq_P, ↓zq_Q, ↓zq_R, zq_S, zq_T, zq_U, zq_V, zq_W, zq_X, zq_Y, zq_Z, zq_0, zq_1, zq_2, zq_3, zq_4, zq_5, ↓zq_6, ↓zq_7, ↓zq_8, ↓zq_9, ↓zq_aa, zq_ab, zq_ac, zq_ad, zq_ae, zq_af, zq_ag, ↓zq_ah, ↓zq_ai, ↓zq_aj, zq_ak, ↓zq_al, ↓zq_am, e_b1, e_b2, x_o1, x_o2, p_704, w_H0, w_P1, i, t1]
        · by_cases w1 : w = 1
          · subst w1
            refine ⟨v3, N, ?_, z0, by rw [if_neg (by decide), if_pos rfl]⟩
            simp [zq_a, zq_b, zq_c, zq_d, zq_e, zq_f, zq_g, zq_h, zq_i, zq_j, zq_k, zq_l, zq_m, zq_n, zq_o, zq_p, zq_q, zq_r, zq_s, zq_t, zq_u, zq_v, zq_w, zq_x, zq_y, zq_z, zq_A, zq_B, zq_C, zq_D, zq_E, zq_F, zq_G, zq_H, zq_I, zq_J, zq_K, zq_L, ↓zq_M, ↓zq_N, ↓zq_O, ↓zq_P, ↓zq_Q, ↓zq_R, zq_S, zq_T, zq_U, zq_V, zq_W, zq_X, zq_Y, zq_Z, zq_0, zq_1, zq_2, zq_3, zq_4, zq_5, ↓zq_6, ↓zq_7, ↓zq_8, ↓zq_9, ↓zq_aa, zq_ab, zq_ac, zq_ad, zq_ae, zq_af, zq_ag, ↓zq_ah, ↓zq_ai, ↓zq_aj, zq_ak, ↓zq_al, ↓zq_am, e_b1, e_b2, x_o1, x_o2, ax_bench, p_704, w_H0, i, k, bx_F0, n0]
          · by_cases w2 : w = 2
            · subst w2
              refine ⟨v4, N, ?_, z0, by rw [if_neg (by decide), if_neg (by decide), if_pos rfl]⟩
              simp [zq_a, zq_b, zq_c, zq_d, zq_e, zq_f, zq_g, zq_h, zq_i, zq_j, zq_k, zq_l, zq_m, zq_n, zq_o, zq_p, zq_q, zq_r, zq_s, zq_t, zq_u, zq_v, zq_w, zq_x, zq_y, zq_z, zq_A, zq_B, zq_C, zq_D, zq_E, zq_F, zq_G, zq_H, zq_I, zq_J, zq_K, zq_L, ↓zq_M, ↓zq_N, ↓zq_O, ↓zq_P, ↓zq_Q, ↓zq_R, zq_S, zq_T, zq_U, zq_V, zq_W, zq_X, zq_Y, zq_Z, zq_0, zq_1, zq_2, zq_3, zq_4, zq_5, ↓zq_6, ↓zq_7, ↓zq_8, ↓zq_9, ↓zq_aa, zq_ab, zq_ac, zq_ad, zq_ae, zq_af, zq_ag, ↓zq_ah, ↓zq_ai, ↓zq_aj, zq_ak, ↓zq_al, ↓zq_am, e_b1, e_b2, x_o1, x_o2, ax_bench, p_704, w_H0, i, k, k6]
            · by_cases w3 : w = 3
              · subst w3
                refine ⟨v2, M, ?_, h0, by rw [if_neg (show ¬ (3 : Int) = 0 by decide), if_neg (show ¬ (3 : Int) = 1 by decide), if_neg (show ¬ (3 : Int) = 2 by decide), if_pos (show (3 : Int) = 3 from rfl)]⟩
                simp [zq_a, zq_b, zq_c, zq_d, zq_e, zq_f, zq_g, zq_h, zq_i, zq_j, zq_k, zq_l, zq_m, zq_n, zq_o, zq_p, zq_q, zq_r, zq_s, zq_t, zq_u, zq_v, zq_w, zq_x, zq_y, zq_z, zq_A, zq_B, zq_C, zq_D, zq_E, zq_F, zq_G, zq_H, zq_I, zq_J, zq_K, zq_L, ↓zq_M, ↓zq_N, ↓zq_O, ↓zq_P, ↓zq_Q, ↓zq_R, zq_S, zq_T, zq_U, zq_V, zq_W, zq_X, zq_Y, zq_Z, zq_0, zq_1, zq_2, zq_3, zq_4, zq_5, ↓zq_6, ↓zq_7, ↓zq_8, ↓zq_9, ↓zq_aa, zq_ab, zq_ac, zq_ad, zq_ae, zq_af, zq_ag, ↓zq_ah, ↓zq_ai, ↓zq_aj, zq_ak, ↓zq_al, ↓zq_am, e_b1, e_b2, x_o1, x_o2, p_704, w_H0, w_P2, i, t2]
              · have e : w = 4 := by omega
                subst e
                refine ⟨if v1 = 0 then -4 else v1 - 1, M, ?_, h0, by rw [if_neg (show ¬ (4 : Int) = 0 by decide), if_neg (show ¬ (4 : Int) = 1 by decide), if_neg (show ¬ (4 : Int) = 2 by decide), if_neg (show ¬ (4 : Int) = 3 by decide)]⟩
                by_cases cv : v1 = 0
                · rw [if_pos cv]
                  obtain ⟨z, hz⟩ : ∃ z, v1 - 1 = z := ⟨_, rfl⟩
                  rw [hz] at t3
                  have cv' : z < 0 := by omega
                  have cv2 : ¬ 0 ≤ z := by omega
                  simp [zq_a, zq_b, zq_c, zq_d, zq_e, zq_f, zq_g, zq_h, zq_i, zq_j, zq_k, zq_l, zq_m, zq_n, zq_o, zq_p, zq_q, zq_r, zq_s, zq_t, zq_u, zq_v, zq_w, zq_x, zq_y, zq_z, zq_A, zq_B, zq_C, zq_D, zq_E, zq_F, zq_G, zq_H, zq_I, zq_J, zq_K, zq_L, ↓zq_M, ↓zq_N, ↓zq_O, ↓zq_P, ↓zq_Q, ↓zq_R, zq_S, zq_T, zq_U, zq_V, zq_W, zq_X, zq_Y, zq_Z, zq_0, zq_1, zq_2, zq_3, zq_4, zq_5, ↓zq_6, ↓zq_7, ↓zq_8, ↓zq_9, ↓zq_aa, zq_ab, zq_ac, zq_ad, zq_ae, zq_af, zq_ag, ↓zq_ah, ↓zq_ai, ↓zq_aj, zq_ak, ↓zq_al, ↓zq_am, e_b1, e_b2, x_o1, x_o2, p_704, w_H0, w_P3, i, t3, cv', cv2]
                · rw [if_neg cv]
                  obtain ⟨z, hz⟩ : ∃ z, v1 - 1 = z := ⟨_, rfl⟩
                  rw [hz] at t3 ⊢
                  have cv' : ¬ (z < 0) := by omega
                  have cv2 : 0 ≤ z := by omega
                  simp [zq_a, zq_b, zq_c, zq_d, zq_e, zq_f, zq_g, zq_h, zq_i, zq_j, zq_k, zq_l, zq_m, zq_n, zq_o, zq_p, zq_q, zq_r, zq_s, zq_t, zq_u, zq_v, zq_w, zq_x, zq_y, zq_z, zq_A, zq_B, zq_C, zq_D, zq_E, zq_F, zq_G, zq_H, zq_I, zq_J, zq_K, zq_L, ↓zq_M, ↓zq_N, ↓zq_O, ↓zq_P, ↓zq_Q, ↓zq_R, zq_S, zq_T, zq_U, zq_V, zq_W, zq_X, zq_Y, zq_Z, zq_0, zq_1, zq_2, zq_3, zq_4, zq_5, ↓zq_6, ↓zq_7, ↓zq_8, ↓zq_9, ↓zq_aa, zq_ab, zq_ac, zq_ad, zq_ae, zq_af, zq_ag, ↓zq_ah, ↓zq_ai, ↓zq_aj, zq_ak, ↓zq_al, ↓zq_am, e_b1, e_b2, x_o1, x_o2, p_704, w_H0, w_P3, i, t3, cv', cv2]
    · refine ⟨-1, M, ?_, h.2.2.2, (if_neg (fun e => by omega)).symm⟩
      simp [zq_a, zq_b, zq_c, zq_d, zq_e, zq_f, zq_g, zq_h, zq_i, zq_j, zq_k, zq_l, zq_m, zq_n, zq_o, zq_p, zq_q, zq_r, zq_s, zq_t, zq_u, zq_v, zq_w, zq_x, zq_y, zq_z, zq_A, zq_B, zq_C, zq_D, zq_E, zq_F, zq_G, zq_H, zq_I, zq_J, zq_K, zq_L, ↓zq_M, ↓zq_N, ↓zq_O, ↓zq_P, ↓zq_Q, ↓zq_R, zq_S, zq_T, zq_U, zq_V, zq_W, zq_X, zq_Y, zq_Z, zq_0, zq_1, zq_2, zq_3, zq_4, zq_5, ↓zq_6, ↓zq_7, ↓zq_8, ↓zq_9, ↓zq_aa, zq_ab, zq_ac, zq_ad, zq_ae, zq_af, zq_ag, ↓zq_ah, ↓zq_ai, ↓zq_aj, zq_ak, ↓zq_al, ↓zq_am, e_b1, e_b2, x_o1, x_o2, i, c0, c0_n]
  · rw [if_neg c] at i
    refine ⟨-1, M, ?_, h.2.2.2, (if_neg (fun e => c e.1)).symm⟩
    simp [zq_a, zq_b, zq_c, zq_d, zq_e, zq_f, zq_g, zq_h, zq_i, zq_j, zq_k, zq_l, zq_m, zq_n, zq_o, zq_p, zq_q, zq_r, zq_s, zq_t, zq_u, zq_v, zq_w, zq_x, zq_y, zq_z, zq_A, zq_B, zq_C, zq_D, zq_E, zq_F, zq_G, zq_H, zq_I, zq_J, zq_K, zq_L, ↓zq_M, ↓zq_N, ↓zq_O, ↓zq_P, ↓zq_Q, ↓zq_R, zq_S, zq_T, zq_U, zq_V, zq_W, zq_X, zq_Y, zq_Z, zq_0, zq_1, zq_2, zq_3, zq_4, zq_5, ↓zq_6, ↓zq_7, ↓zq_8, ↓zq_9, ↓zq_aa, zq_ab, zq_ac, zq_ad, zq_ae, zq_af, zq_ag, ↓zq_ah, ↓zq_ai, ↓zq_aj, zq_ak, ↓zq_al, ↓zq_am, e_b1, e_b2, x_o1, x_o2, i]
theorem ax_133 (h : hd_all M) : ∃ r M', E_C 133 [8, p] M = some (r, M') ∧ M' 171 0 = 0 ∧ r = if 0 ≤ p ∧ p < r_G M 1198 then 1 + (ax_nc (r_G M) p : Int) + (ax_nd (r_G M) p : Int) else -1 := by
  have h10 : M 10 0 = r_G M 1198 := h.1.1
  have i := h_149 (k := p) (M := M)
  rw [h10] at i
  have s0 : E_C 133 [8, p] M = e_tv E_C (E_V 133) e_t133_0 [8, p] M := r_ent (u := 133) (as := [8, p]) (M := M) (decide_eq_true c_this)
  rw [s0]
  unfold e_t133_0
  by_cases c : 0 ≤ p ∧ p < r_G M 1198
  · rw [if_pos c] at i
    rw [if_pos c]
    obtain ⟨q, rfl⟩ : ∃ q : Nat, p = q := ⟨p.toNat, by omega⟩
    obtain ⟨N, k, n0, k6, l3, l4, z0⟩ := ax_1d h c.2
    generalize hv3 : (ax_nc (r_G M) (q : Int) : Int) = v3 at n0 ⊢
    generalize hv4 : (ax_nd (r_G M) (q : Int) : Int) = v4 at k6 ⊢
    have w1 : e_w (1 + v3) = 1 + v3 := a_w_id (by omega) (by omega)
    have w2 : e_w (1 + v3 + v4) = 1 + v3 + v4 := a_w_id (by omega) (by omega)
    have k29 : E_C 29 [170] N = some (1 + v3 + v4, N) := by
      rw [r_ent (show e_rok 29 [170] = true from bx_r (M := N) rfl (by decide +kernel))]
      show e_tv E_C (E_V 29) e_t29_0 [170] N = _
      unfold e_t29_0
      simp [zq_a, zq_b, zq_c, zq_d, zq_e, zq_f, zq_g, zq_h, zq_i, zq_j, zq_k, zq_l, zq_m, zq_n, zq_o, zq_p, zq_q, zq_r, zq_s, zq_t, zq_u, zq_v, zq_w, zq_x, zq_y, zq_z, zq_A, zq_B, zq_C, zq_D, zq_E, zq_F, zq_G, zq_H, zq_I, zq_J, zq_K, zq_L, ↓zq_M, ↓zq_N, ↓zq_O, ↓zq_P, ↓zq_Q, ↓zq_R, zq_S, zq_T, zq_U, zq_V, zq_W, zq_X, zq_Y, zq_Z, zq_0, zq_1, zq_2, zq_3, zq_4, zq_5, ↓zq_6, ↓zq_7, ↓zq_8, ↓zq_9, ↓zq_aa, zq_ab, zq_ac, zq_ad, zq_ae, zq_af, zq_ag, ↓zq_ah, ↓zq_ai, ↓zq_aj, zq_ak, ↓zq_al, ↓zq_am, e_b1, e_b2, x_o1, x_o2, bx_F0, n0, k6, w1, w2]
    refine ⟨_, N, ?_, z0, rfl⟩
    simp [zq_a, zq_b, zq_c, zq_d, zq_e, zq_f, zq_g, zq_h, zq_i, zq_j, zq_k, zq_l, zq_m, zq_n, zq_o, zq_p, zq_q, zq_r, zq_s, zq_t, zq_u, zq_v, zq_w, zq_x, zq_y, zq_z, zq_A, zq_B, zq_C, zq_D, zq_E, zq_F, zq_G, zq_H, zq_I, zq_J, zq_K, zq_L, ↓zq_M, ↓zq_N, ↓zq_O, ↓zq_P, ↓zq_Q, ↓zq_R, zq_S, zq_T, zq_U, zq_V, zq_W, zq_X, zq_Y, zq_Z, zq_0, zq_1, zq_2, zq_3, zq_4, zq_5, ↓zq_6, ↓zq_7, ↓zq_8, ↓zq_9, ↓zq_aa, zq_ab, zq_ac, zq_ad, zq_ae, zq_af, zq_ag, ↓zq_ah, ↓zq_ai, ↓zq_aj, zq_ak, ↓zq_al, ↓zq_am, e_b1, e_b2, x_o1, x_o2, ax_bench, i, k, k29]
  · rw [if_neg c] at i
    refine ⟨-1, M, ?_, h.2.2.2, (if_neg c).symm⟩
    simp [zq_a, zq_b, zq_c, zq_d, zq_e, zq_f, zq_g, zq_h, zq_i, zq_j, zq_k, zq_l, zq_m, zq_n, zq_o, zq_p, zq_q, zq_r, zq_s, zq_t, zq_u, zq_v, zq_w, zq_x, zq_y, zq_z, zq_A, zq_B, zq_C, zq_D, zq_E, zq_F, zq_G, zq_H, zq_I, zq_J, zq_K, zq_L, ↓zq_M, ↓zq_N, ↓zq_O, ↓zq_P, ↓zq_Q, ↓zq_R, zq_S, zq_T, zq_U, zq_V, zq_W, zq_X, zq_Y, zq_Z, zq_0, zq_1, zq_2, zq_3, zq_4, zq_5, ↓zq_6, ↓zq_7, ↓zq_8, ↓zq_9, ↓zq_aa, zq_ab, zq_ac, zq_ad, zq_ae, zq_af, zq_ag, ↓zq_ah, ↓zq_ai, ↓zq_aj, zq_ak, ↓zq_al, ↓zq_am, e_b1, e_b2, x_o1, x_o2, i]
theorem ax_g {g : Int → Int} (hG : r_G M1 = g) (J1 : r_J M1) (hp : 0 ≤ p ∧ p < g 1198) (hcap : ax_nc g p ≤ 40 ∧ ax_nd g p ≤ 40) : ∃ M', E_C 175 [192, p] M1 = some (0, M') ∧ ga_B g M1 M' (cu_ln g (cu_in g p)) (cu_nl g (cu_in g p)) := by
  have hW := (r_J_E J1).2.1
  rw [hG] at hW
  have a := hcap.1
  have b := hcap.2
  unfold ax_nc at a
  unfold ax_nd at b
  exact ga_all (b := g 1198) hW.2.1 (hW.2.2.1 p hp.1 hp.2) (by omega) (by omega) hG
theorem ax_191 {g : Int → Int} (hG : r_G M1 = g) (J1 : r_J M1) (hwh : ∀ q : Nat, (q : Int) < g 1198 → 0 ≤ g (28 * (q : Int) + 1)) (hcap : ∀ p, (ax_nc g p ≤ 40 ∧ ax_nd g p ≤ 40) ∨ ¬ (0 ≤ p ∧ p < g 1198)) : ∃ r M', E_C 191 [192, p, w] M1 = some (r, M') ∧ r = if (0 ≤ p ∧ p < g 1198) ∧ 0 ≤ w ∧ w ≤ 4 then ax_A g p w else -1 := by
  have hW := (r_J_E J1).2.1
  by_cases c : 0 ≤ p ∧ p < g 1198
  · have c' : 0 ≤ p ∧ p < r_G M1 1198 := by rw [hG]; exact c
    have ip := r_ip1 hW c'
    have h40 := r_40 hW c'
    by_cases cw : 0 ≤ w ∧ w ≤ 4
    · have iw := r_in1 (M := M1) cw
      rw [if_pos ⟨c, cw⟩]
      obtain ⟨M', k, B⟩ := ax_g hG J1 c ((hcap p).resolve_right (fun e => e c))
      have hG' : r_G M' = g := (ga_G (fun id k a b e => B.2.2.2.2 _ _ b e (by omega))).trans hG
      have n13 : M' 192 13 = (ax_nc g p : Int) := B.1
      have n14 : M' 192 14 = (ax_nd g p : Int) := B.2.1
      clear B
      have w1 : e_w (28 * p) = 28 * p := a_w_id (by omega) (by omega)
      have w2 : e_w (28 * p + 19) = 28 * p + 19 := a_w_id (by omega) (by omega)
      have w3 : e_w (28 * p + 1) = 28 * p + 1 := a_w_id (by omega) (by omega)
      have l1 : e_op 60 [193, 28 * p + 19] M' = some (g (28 * p + 19)) := (r_rd (by omega) (by omega)).trans (congrArg some (congrFun hG' _))
      have l2 : e_op 60 [193, 28 * p + 1] M' = some (g (28 * p + 1)) := (r_rd (by omega) (by omega)).trans (congrArg some (congrFun hG' _))
      have kk : E_C 170 [192, p] M' = some (g (28 * p), M') := by rw [← hG']; exact r_kind h40
      have km : E_C 171 [192, p] M' = some (g (28 * p + 2), M') := by rw [← hG']; exact r_many h40
      have b1 : 0 ≤ g (28 * p + 1) := by
        obtain ⟨q, rfl⟩ : ∃ q : Nat, p = q := ⟨p.toNat, by omega⟩
        exact hwh q c.2
      unfold ax_A
      generalize (ax_nc g p : Int) = v3 at n13 ⊢
      generalize (ax_nd g p : Int) = v4 at n14 ⊢
      have b32 : -2147483648 ≤ g (28 * p + 1) ∧ g (28 * p + 1) ≤ 2147483647 := by rw [← hG]; exact r_gr J1.1 _
      by_cases w0 : w = 0
      · subst w0
        refine ⟨g (28 * p), M', ?_, (if_pos rfl).symm⟩
        have j : E_V 191 60 [192, p, 0] M' = some (g (28 * p), M') := by
          rw [E_V_eq]
          show e_tv E_C (E_V 191) e_t191_60 [192, p, 0] M' = _
          unfold e_t191_60
          simp [zq_a, zq_b, zq_c, zq_d, zq_e, zq_f, zq_g, zq_h, zq_i, zq_j, zq_k, zq_l, zq_m, zq_n, zq_o, zq_p, zq_q, zq_r, zq_s, zq_t, zq_u, zq_v, zq_w, zq_x, zq_y, zq_z, zq_A, zq_B, zq_C, zq_D, zq_E, zq_F, zq_G, zq_H, zq_I, zq_J, zq_K, zq_L, ↓zq_M, ↓zq_N, ↓zq_O, ↓zq_P, ↓zq_Q, ↓zq_R, zq_S, zq_T, zq_U, zq_V, zq_W, zq_X, zq_Y, zq_Z, zq_0, zq_1, zq_2, zq_3, zq_4, zq_5, ↓zq_6, ↓zq_7, ↓zq_8, ↓zq_9, ↓zq_aa, zq_ab, zq_ac, zq_ad, zq_ae, zq_af, zq_ag, ↓zq_ah, ↓zq_ai, ↓zq_aj, zq_ak, ↓zq_al, ↓zq_am, e_b1, e_b2, x_o1, x_o2, kk]
        rw [r_ent (show e_rok 191 [192, p, 0] = true from decide_eq_true r_ref)]
        show e_tv E_C (E_V 191) e_t191_0 [192, p, 0] M1 = _
        unfold e_t191_0
        simp [zq_a, zq_b, zq_c, zq_d, zq_e, zq_f, zq_g, zq_h, zq_i, zq_j, zq_k, zq_l, zq_m, zq_n, zq_o, zq_p, zq_q, zq_r, zq_s, zq_t, zq_u, zq_v, zq_w, zq_x, zq_y, zq_z, zq_A, zq_B, zq_C, zq_D, zq_E, zq_F, zq_G, zq_H, zq_I, zq_J, zq_K, zq_L, ↓zq_M, ↓zq_N, ↓zq_O, ↓zq_P, ↓zq_Q, ↓zq_R, zq_S, zq_T, zq_U, zq_V, zq_W, zq_X, zq_Y, zq_Z, zq_0, zq_1, zq_2, zq_3, zq_4, zq_5, ↓zq_6, ↓zq_7, ↓zq_8, ↓zq_9, ↓zq_aa, zq_ab, zq_ac, zq_ad, zq_ae, zq_af, zq_ag, ↓zq_ah, ↓zq_ai, ↓zq_aj, zq_ak, ↓zq_al, ↓zq_am, e_b1, e_b2, x_o1, x_o2, e_len, e_nth, ip, iw, k, j]
      · by_cases q1 : w = 1
        · subst q1
          refine ⟨v3, M', ?_, by rw [if_neg (by decide), if_pos rfl]⟩
          have j : E_V 191 66 [192, p, 1] M' = some (v3, M') := by
            rw [E_V_eq]
            show e_tv E_C (E_V 191) e_t191_66 [192, p, 1] M' = _
            unfold e_t191_66
            simp [zq_a, zq_b, zq_c, zq_d, zq_e, zq_f, zq_g, zq_h, zq_i, zq_j, zq_k, zq_l, zq_m, zq_n, zq_o, zq_p, zq_q, zq_r, zq_s, zq_t, zq_u, zq_v, zq_w, zq_x, zq_y, zq_z, zq_A, zq_B, zq_C, zq_D, zq_E, zq_F, zq_G, zq_H, zq_I, zq_J, zq_K, zq_L, ↓zq_M, ↓zq_N, ↓zq_O, ↓zq_P, ↓zq_Q, ↓zq_R, zq_S, zq_T, zq_U, zq_V, zq_W, zq_X, zq_Y, zq_Z, zq_0, zq_1, zq_2, zq_3, zq_4, zq_5, ↓zq_6, ↓zq_7, ↓zq_8, ↓zq_9, ↓zq_aa, zq_ab, zq_ac, zq_ad, zq_ae, zq_af, zq_ag, ↓zq_ah, ↓zq_ai, ↓zq_aj, zq_ak, ↓zq_al, ↓zq_am, e_b1, e_b2, x_o1, x_o2, r_F13, n13]
          rw [r_ent (show e_rok 191 [192, p, 1] = true from decide_eq_true r_ref)]
          show e_tv E_C (E_V 191) e_t191_0 [192, p, 1] M1 = _
          unfold e_t191_0
          simp [zq_a, zq_b, zq_c, zq_d, zq_e, zq_f, zq_g, zq_h, zq_i, zq_j, zq_k, zq_l, zq_m, zq_n, zq_o, zq_p, zq_q, zq_r, zq_s, zq_t, zq_u, zq_v, zq_w, zq_x, zq_y, zq_z, zq_A, zq_B, zq_C, zq_D, zq_E, zq_F, zq_G, zq_H, zq_I, zq_J, zq_K, zq_L, ↓zq_M, ↓zq_N, ↓zq_O, ↓zq_P, ↓zq_Q, ↓zq_R, zq_S, zq_T, zq_U, zq_V, zq_W, zq_X, zq_Y, zq_Z, zq_0, zq_1, zq_2, zq_3, zq_4, zq_5, ↓zq_6, ↓zq_7, ↓zq_8, ↓zq_9, ↓zq_aa, zq_ab, zq_ac, zq_ad, zq_ae, zq_af, zq_ag, ↓zq_ah, ↓zq_ai, ↓zq_aj, zq_ak, ↓zq_al, ↓zq_am, e_b1, e_b2, x_o1, x_o2, e_len, e_nth, ip, iw, k, j]
        · by_cases q2 : w = 2
          · subst q2
            refine ⟨v4, M', ?_, by rw [if_neg (by decide), if_neg (by decide), if_pos rfl]⟩
            have j : E_V 191 71 [192, p, 2] M' = some (v4, M') := by
              rw [E_V_eq]
              show e_tv E_C (E_V 191) e_t191_71 [192, p, 2] M' = _
              unfold e_t191_71
              simp [zq_a, zq_b, zq_c, zq_d, zq_e, zq_f, zq_g, zq_h, zq_i, zq_j, zq_k, zq_l, zq_m, zq_n, zq_o, zq_p, zq_q, zq_r, zq_s, zq_t, zq_u, zq_v, zq_w, zq_x, zq_y, zq_z, zq_A, zq_B, zq_C, zq_D, zq_E, zq_F, zq_G, zq_H, zq_I, zq_J, zq_K, zq_L, ↓zq_M, ↓zq_N, ↓zq_O, ↓zq_P, ↓zq_Q, ↓zq_R, zq_S, zq_T, zq_U, zq_V, zq_W, zq_X, zq_Y, zq_Z, zq_0, zq_1, zq_2, zq_3, zq_4, zq_5, ↓zq_6, ↓zq_7, ↓zq_8, ↓zq_9, ↓zq_aa, zq_ab, zq_ac, zq_ad, zq_ae, zq_af, zq_ag, ↓zq_ah, ↓zq_ai, ↓zq_aj, zq_ak, ↓zq_al, ↓zq_am, e_b1, e_b2, x_o1, x_o2, r_F14, n14]
            rw [r_ent (show e_rok 191 [192, p, 2] = true from decide_eq_true r_ref)]
            show e_tv E_C (E_V 191) e_t191_0 [192, p, 2] M1 = _
            unfold e_t191_0
            simp [zq_a, zq_b, zq_c, zq_d, zq_e, zq_f, zq_g, zq_h, zq_i, zq_j, zq_k, zq_l, zq_m, zq_n, zq_o, zq_p, zq_q, zq_r, zq_s, zq_t, zq_u, zq_v, zq_w, zq_x, zq_y, zq_z, zq_A, zq_B, zq_C, zq_D, zq_E, zq_F, zq_G, zq_H, zq_I, zq_J, zq_K, zq_L, ↓zq_M, ↓zq_N, ↓zq_O, ↓zq_P, ↓zq_Q, ↓zq_R, zq_S, zq_T, zq_U, zq_V, zq_W, zq_X, zq_Y, zq_Z, zq_0, zq_1, zq_2, zq_3, zq_4, zq_5, ↓zq_6, ↓zq_7, ↓zq_8, ↓zq_9, ↓zq_aa, zq_ab, zq_ac, zq_ad, zq_ae, zq_af, zq_ag, ↓zq_ah, ↓zq_ai, ↓zq_aj, zq_ak, ↓zq_al, ↓zq_am, e_b1, e_b2, x_o1, x_o2, e_len, e_nth, ip, iw, k, j]
          · by_cases q3 : w = 3
            · subst q3
              refine ⟨if g (28 * p) = 1 then g (28 * p + 19) else g (28 * p + 2), M', ?_, by rw [if_neg (show ¬ (3 : Int) = 0 by decide), if_neg (show ¬ (3 : Int) = 1 by decide), if_neg (show ¬ (3 : Int) = 2 by decide), if_pos (show (3 : Int) = 3 from rfl)]⟩
              have j : E_V 191 76 [192, p, 3] M' = some (if g (28 * p) = 1 then g (28 * p + 19) else g (28 * p + 2), M') := by
                by_cases k1 : g (28 * p) = 1
                · rw [if_pos k1]
                  rw [k1] at kk
                  rw [E_V_eq]
                  show e_tv E_C (E_V 191) e_t191_76 [192, p, 3] M' = _
                  unfold e_t191_76
                  simp [zq_a, zq_b, zq_c, zq_d, zq_e, zq_f, zq_g, zq_h, zq_i, zq_j, zq_k, zq_l, zq_m, zq_n, zq_o, zq_p, zq_q, zq_r, zq_s, zq_t, zq_u, zq_v, zq_w, zq_x, zq_y, zq_z, zq_A, zq_B, zq_C, zq_D, zq_E, zq_F, zq_G, zq_H, zq_I, zq_J, zq_K, zq_L, ↓zq_M, ↓zq_N, ↓zq_O, ↓zq_P, ↓zq_Q, ↓zq_R, zq_S, zq_T, zq_U, zq_V, zq_W, zq_X, zq_Y, zq_Z, zq_0, zq_1, zq_2, zq_3, zq_4, zq_5, ↓zq_6, ↓zq_7, ↓zq_8, ↓zq_9, ↓zq_aa, zq_ab, zq_ac, zq_ad, zq_ae, zq_af, zq_ag, ↓zq_ah, ↓zq_ai, ↓zq_aj, zq_ak, ↓zq_al, ↓zq_am, e_b1, e_b2, x_o1, x_o2, r_O0, kk, w1, w2, l1]
                · rw [if_neg k1]
                  rw [E_V_eq]
                  show e_tv E_C (E_V 191) e_t191_76 [192, p, 3] M' = _
                  unfold e_t191_76
                  simp [zq_a, zq_b, zq_c, zq_d, zq_e, zq_f, zq_g, zq_h, zq_i, zq_j, zq_k, zq_l, zq_m, zq_n, zq_o, zq_p, zq_q, zq_r, zq_s, zq_t, zq_u, zq_v, zq_w, zq_x, zq_y, zq_z, zq_A, zq_B, zq_C, zq_D, zq_E, zq_F, zq_G, zq_H, zq_I, zq_J, zq_K, zq_L, ↓zq_M, ↓zq_N, ↓zq_O, ↓zq_P, ↓zq_Q, ↓zq_R, zq_S, zq_T, zq_U, zq_V, zq_W, zq_X, zq_Y, zq_Z, zq_0, zq_1, zq_2, zq_3, zq_4, zq_5, ↓zq_6, ↓zq_7, ↓zq_8, ↓zq_9, ↓zq_aa, zq_ab, zq_ac, zq_ad, zq_ae, zq_af, zq_ag, ↓zq_ah, ↓zq_ai, ↓zq_aj, zq_ak, ↓zq_al, ↓zq_am, e_b1, e_b2, x_o1, x_o2, r_O0, kk, km, k1]
              rw [r_ent (show e_rok 191 [192, p, 3] = true from decide_eq_true r_ref)]
              show e_tv E_C (E_V 191) e_t191_0 [192, p, 3] M1 = _
              unfold e_t191_0
              simp [zq_a, zq_b, zq_c, zq_d, zq_e, zq_f, zq_g, zq_h, zq_i, zq_j, zq_k, zq_l, zq_m, zq_n, zq_o, zq_p, zq_q, zq_r, zq_s, zq_t, zq_u, zq_v, zq_w, zq_x, zq_y, zq_z, zq_A, zq_B, zq_C, zq_D, zq_E, zq_F, zq_G, zq_H, zq_I, zq_J, zq_K, zq_L, ↓zq_M, ↓zq_N, ↓zq_O, ↓zq_P, ↓zq_Q, ↓zq_R, zq_S, zq_T, zq_U, zq_V, zq_W, zq_X, zq_Y, zq_Z, zq_0, zq_1, zq_2, zq_3, zq_4, zq_5, ↓zq_6, ↓zq_7, ↓zq_8, ↓zq_9, ↓zq_aa, zq_ab, zq_ac, zq_ad, zq_ae, zq_af, zq_ag, ↓zq_ah, ↓zq_ai, ↓zq_aj, zq_ak, ↓zq_al, ↓zq_am, e_b1, e_b2, x_o1, x_o2, e_len, e_nth, ip, iw, k, j]
            · have e : w = 4 := by omega
              subst e
              refine ⟨if g (28 * p + 1) = 0 then -4 else g (28 * p + 1) - 1, M', ?_, by rw [if_neg (show ¬ (4 : Int) = 0 by decide), if_neg (show ¬ (4 : Int) = 1 by decide), if_neg (show ¬ (4 : Int) = 2 by decide), if_neg (show ¬ (4 : Int) = 3 by decide)]⟩
              have j : E_V 191 106 [192, p, 4] M' = some (if g (28 * p + 1) = 0 then -4 else g (28 * p + 1) - 1, M') := by
                by_cases k1 : g (28 * p + 1) = 0
                · rw [if_pos k1]
                  rw [k1] at l2
                  rw [E_V_eq]
                  show e_tv E_C (E_V 191) e_t191_106 [192, p, 4] M' = _
                  unfold e_t191_106
                  simp [zq_a, zq_b, zq_c, zq_d, zq_e, zq_f, zq_g, zq_h, zq_i, zq_j, zq_k, zq_l, zq_m, zq_n, zq_o, zq_p, zq_q, zq_r, zq_s, zq_t, zq_u, zq_v, zq_w, zq_x, zq_y, zq_z, zq_A, zq_B, zq_C, zq_D, zq_E, zq_F, zq_G, zq_H, zq_I, zq_J, zq_K, zq_L, ↓zq_M, ↓zq_N, ↓zq_O, ↓zq_P, ↓zq_Q, ↓zq_R, zq_S, zq_T, zq_U, zq_V, zq_W, zq_X, zq_Y, zq_Z, zq_0, zq_1, zq_2, zq_3, zq_4, zq_5, ↓zq_6, ↓zq_7, ↓zq_8, ↓zq_9, ↓zq_aa, zq_ab, zq_ac, zq_ad, zq_ae, zq_af, zq_ag, ↓zq_ah, ↓zq_ai, ↓zq_aj, zq_ak, ↓zq_al, ↓zq_am, e_b1, e_b2, x_o1, x_o2, r_O0, w1, w3, l2]
                · have hl : 0 ≤ g (28 * p + 1) ∨ g (28 * p + 1) < 0 := by omega
                  rw [if_neg k1]
                  have w4 : e_w (g (28 * p + 1) - 1) = g (28 * p + 1) - 1 := a_w_id (by omega) (by omega)
                  rw [E_V_eq]
                  show e_tv E_C (E_V 191) e_t191_106 [192, p, 4] M' = _
                  unfold e_t191_106
                  simp [zq_a, zq_b, zq_c, zq_d, zq_e, zq_f, zq_g, zq_h, zq_i, zq_j, zq_k, zq_l, zq_m, zq_n, zq_o, zq_p, zq_q, zq_r, zq_s, zq_t, zq_u, zq_v, zq_w, zq_x, zq_y, zq_z, zq_A, zq_B, zq_C, zq_D, zq_E, zq_F, zq_G, zq_H, zq_I, zq_J, zq_K, zq_L, ↓zq_M, ↓zq_N, ↓zq_O, ↓zq_P, ↓zq_Q, ↓zq_R, zq_S, zq_T, zq_U, zq_V, zq_W, zq_X, zq_Y, zq_Z, zq_0, zq_1, zq_2, zq_3, zq_4, zq_5, ↓zq_6, ↓zq_7, ↓zq_8, ↓zq_9, ↓zq_aa, zq_ab, zq_ac, zq_ad, zq_ae, zq_af, zq_ag, ↓zq_ah, ↓zq_ai, ↓zq_aj, zq_ak, ↓zq_al, ↓zq_am, e_b1, e_b2, x_o1, x_o2, r_O0, w1, w3, l2, k1, w4]
              rw [r_ent (show e_rok 191 [192, p, 4] = true from decide_eq_true r_ref)]
              show e_tv E_C (E_V 191) e_t191_0 [192, p, 4] M1 = _
              unfold e_t191_0
              simp [zq_a, zq_b, zq_c, zq_d, zq_e, zq_f, zq_g, zq_h, zq_i, zq_j, zq_k, zq_l, zq_m, zq_n, zq_o, zq_p, zq_q, zq_r, zq_s, zq_t, zq_u, zq_v, zq_w, zq_x, zq_y, zq_z, zq_A, zq_B, zq_C, zq_D, zq_E, zq_F, zq_G, zq_H, zq_I, zq_J, zq_K, zq_L, ↓zq_M, ↓zq_N, ↓zq_O, ↓zq_P, ↓zq_Q, ↓zq_R, zq_S, zq_T, zq_U, zq_V, zq_W, zq_X, zq_Y, zq_Z, zq_0, zq_1, zq_2, zq_3, zq_4, zq_5, ↓zq_6, ↓zq_7, ↓zq_8, ↓zq_9, ↓zq_aa, zq_ab, zq_ac, zq_ad, zq_ae, zq_af, zq_ag, ↓zq_ah, ↓zq_ai, ↓zq_aj, zq_ak, ↓zq_al, ↓zq_am, e_b1, e_b2, x_o1, x_o2, e_len, e_nth, ip, iw, k, j]
    · have iw := r_in0 (M := M1) cw
      refine ⟨-1, M1, ?_, (if_neg (fun e => cw e.2)).symm⟩
      rw [r_ent (show e_rok 191 [192, p, w] = true from decide_eq_true r_ref)]
      show e_tv E_C (E_V 191) e_t191_0 [192, p, w] M1 = _
      unfold e_t191_0
      simp [zq_a, zq_b, zq_c, zq_d, zq_e, zq_f, zq_g, zq_h, zq_i, zq_j, zq_k, zq_l, zq_m, zq_n, zq_o, zq_p, zq_q, zq_r, zq_s, zq_t, zq_u, zq_v, zq_w, zq_x, zq_y, zq_z, zq_A, zq_B, zq_C, zq_D, zq_E, zq_F, zq_G, zq_H, zq_I, zq_J, zq_K, zq_L, ↓zq_M, ↓zq_N, ↓zq_O, ↓zq_P, ↓zq_Q, ↓zq_R, zq_S, zq_T, zq_U, zq_V, zq_W, zq_X, zq_Y, zq_Z, zq_0, zq_1, zq_2, zq_3, zq_4, zq_5, ↓zq_6, ↓zq_7, ↓zq_8, ↓zq_9, ↓zq_aa, zq_ab, zq_ac, zq_ad, zq_ae, zq_af, zq_ag, ↓zq_ah, ↓zq_ai, ↓zq_aj, zq_ak, ↓zq_al, ↓zq_am, e_b1, e_b2, x_o1, x_o2, ip, iw]
  · have ip := r_ip0 hW (show ¬ (0 ≤ p ∧ p < r_G M1 1198) by rw [hG]; exact c)
    refine ⟨-1, M1, ?_, (if_neg (fun e => c e.1)).symm⟩
    rw [r_ent (show e_rok 191 [192, p, w] = true from decide_eq_true r_ref)]
    show e_tv E_C (E_V 191) e_t191_0 [192, p, w] M1 = _
    unfold e_t191_0
    simp [zq_a, zq_b, zq_c, zq_d, zq_e, zq_f, zq_g, zq_h, zq_i, zq_j, zq_k, zq_l, zq_m, zq_n, zq_o, zq_p, zq_q, zq_r, zq_s, zq_t, zq_u, zq_v, zq_w, zq_x, zq_y, zq_z, zq_A, zq_B, zq_C, zq_D, zq_E, zq_F, zq_G, zq_H, zq_I, zq_J, zq_K, zq_L, ↓zq_M, ↓zq_N, ↓zq_O, ↓zq_P, ↓zq_Q, ↓zq_R, zq_S, zq_T, zq_U, zq_V, zq_W, zq_X, zq_Y, zq_Z, zq_0, zq_1, zq_2, zq_3, zq_4, zq_5, ↓zq_6, ↓zq_7, ↓zq_8, ↓zq_9, ↓zq_aa, zq_ab, zq_ac, zq_ad, zq_ae, zq_af, zq_ag, ↓zq_ah, ↓zq_ai, ↓zq_aj, zq_ak, ↓zq_al, ↓zq_am, e_b1, e_b2, x_o1, x_o2, ip]
theorem ax_248 {g : Int → Int} (hG : r_G M1 = g) (J1 : r_J M1) (hcap : ∀ p, (ax_nc g p ≤ 40 ∧ ax_nd g p ≤ 40) ∨ ¬ (0 ≤ p ∧ p < g 1198)) : ∃ r M', E_C 248 [192, p] M1 = some (r, M') ∧ r = if 0 ≤ p ∧ p < g 1198 then 1 + (ax_nc g p : Int) + (ax_nd g p : Int) else -1 := by
  have hW := (r_J_E J1).2.1
  by_cases c : 0 ≤ p ∧ p < g 1198
  · have ip := r_ip1 hW (show 0 ≤ p ∧ p < r_G M1 1198 by rw [hG]; exact c)
    rw [if_pos c]
    have cap := (hcap p).resolve_right (fun e => e c)
    obtain ⟨M', k, B⟩ := ax_g hG J1 c cap
    have n13 : M' 192 13 = (ax_nc g p : Int) := B.1
    have n14 : M' 192 14 = (ax_nd g p : Int) := B.2.1
    clear B
    generalize hv3 : (ax_nc g p : Int) = v3 at n13 ⊢
    generalize hv4 : (ax_nd g p : Int) = v4 at n14 ⊢
    have w1 : e_w (1 + v3) = 1 + v3 := a_w_id (by omega) (by omega)
    have w2 : e_w (1 + v3 + v4) = 1 + v3 + v4 := a_w_id (by omega) (by omega)
    refine ⟨_, M', ?_, rfl⟩
    rw [r_ent (show e_rok 248 [192, p] = true from decide_eq_true r_ref)]
    show e_tv E_C (E_V 248) e_t248_0 [192, p] M1 = _
    unfold e_t248_0
    simp [zq_a, zq_b, zq_c, zq_d, zq_e, zq_f, zq_g, zq_h, zq_i, zq_j, zq_k, zq_l, zq_m, zq_n, zq_o, zq_p, zq_q, zq_r, zq_s, zq_t, zq_u, zq_v, zq_w, zq_x, zq_y, zq_z, zq_A, zq_B, zq_C, zq_D, zq_E, zq_F, zq_G, zq_H, zq_I, zq_J, zq_K, zq_L, ↓zq_M, ↓zq_N, ↓zq_O, ↓zq_P, ↓zq_Q, ↓zq_R, zq_S, zq_T, zq_U, zq_V, zq_W, zq_X, zq_Y, zq_Z, zq_0, zq_1, zq_2, zq_3, zq_4, zq_5, ↓zq_6, ↓zq_7, ↓zq_8, ↓zq_9, ↓zq_aa, zq_ab, zq_ac, zq_ad, zq_ae, zq_af, zq_ag, ↓zq_ah, ↓zq_ai, ↓zq_aj, zq_ak, ↓zq_al, ↓zq_am, e_b1, e_b2, x_o1, x_o2, r_F13, r_F14, ip, k, n13, n14, w1, w2]
  · have ip := r_ip0 hW (show ¬ (0 ≤ p ∧ p < r_G M1 1198) by rw [hG]; exact c)
    refine ⟨-1, M1, ?_, (if_neg c).symm⟩
    rw [r_ent (show e_rok 248 [192, p] = true from decide_eq_true r_ref)]
    show e_tv E_C (E_V 248) e_t248_0 [192, p] M1 = _
    unfold e_t248_0
    simp [zq_a, zq_b, zq_c, zq_d, zq_e, zq_f, zq_g, zq_h, zq_i, zq_j, zq_k, zq_l, zq_m, zq_n, zq_o, zq_p, zq_q, zq_r, zq_s, zq_t, zq_u, zq_v, zq_w, zq_x, zq_y, zq_z, zq_A, zq_B, zq_C, zq_D, zq_E, zq_F, zq_G, zq_H, zq_I, zq_J, zq_K, zq_L, ↓zq_M, ↓zq_N, ↓zq_O, ↓zq_P, ↓zq_Q, ↓zq_R, zq_S, zq_T, zq_U, zq_V, zq_W, zq_X, zq_Y, zq_Z, zq_0, zq_1, zq_2, zq_3, zq_4, zq_5, ↓zq_6, ↓zq_7, ↓zq_8, ↓zq_9, ↓zq_aa, zq_ab, zq_ac, zq_ad, zq_ae, zq_af, zq_ag, ↓zq_ah, ↓zq_ai, ↓zq_aj, zq_ak, ↓zq_al, ↓zq_am, e_b1, e_b2, x_o1, x_o2, ip]
theorem ax_about (h : hd_all M) (J1 : r_J M1) (hfr : ∀ i, M1 193 i = M 193 i) (k1 : E_C 105 [8, p, w] M = some (r1, M1)) (k2 : E_C 191 [192, p, w] M1 = some (r2, M2)) : r1 = r2 ∧ M1 171 0 = 0 := by
  have eG : r_G M1 = r_G M := funext fun i => hfr _
  obtain ⟨r, M', a1, a2, a3⟩ := ax_105 (p := p) (w := w) h
  obtain ⟨r', M'', b1, b3⟩ := ax_191 (p := p) (w := w) eG J1 (fun q hq => (h.1.2.2 q hq).2.2.2.1) (ax_cap h)
  obtain ⟨e1, e2⟩ := Prod.mk.inj (Option.some.inj (k1.symm.trans a1))
  obtain ⟨f1, f2⟩ := Prod.mk.inj (Option.some.inj (k2.symm.trans b1))
  exact ⟨by rw [e1, f1, a3, b3], by rw [e2]; exact a2⟩
theorem ax_faults (h : hd_all M) (J1 : r_J M1) (hfr : ∀ i, M1 193 i = M 193 i) (k1 : E_C 133 [8, p] M = some (r1, M1)) (k2 : E_C 248 [192, p] M1 = some (r2, M2)) : r1 = r2 ∧ M1 171 0 = 0 := by
  have eG : r_G M1 = r_G M := funext fun i => hfr _
  obtain ⟨r, M', a1, a2, a3⟩ := ax_133 (p := p) h
  obtain ⟨r', M'', b1, b3⟩ := ax_248 (p := p) eG J1 (ax_cap h)
  obtain ⟨e1, e2⟩ := Prod.mk.inj (Option.some.inj (k1.symm.trans a1))
  obtain ⟨f1, f2⟩ := Prod.mk.inj (Option.some.inj (k2.symm.trans b1))
  exact ⟨by rw [e1, f1, a3, b3], by rw [e2]; exact a2⟩
end AXJ
end
section
/-! the table by orders -/
/-- the table by orders stands -/
def h_t2 (M : EM) : Prop := M 2 0 = 6 ∧ M 2 1 = 2 ∧ M 2 2 = 2 ∧ M 2 3 = 6
end
