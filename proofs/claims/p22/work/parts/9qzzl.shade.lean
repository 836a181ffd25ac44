/-! shades of WALLS, by class and reference; LIT -/
def sd_n (X Y dx dy x y : Int) : Nat → Bool
  | 0 => false
  | m + 1 => sd_n X Y dx dy x y m || (decide (X + (m : Int) * dx = x) && decide (Y + (m : Int) * dy = y))
def sd_dx (w : Int) : Int := if w = 2 ∨ w = 6 then 0 else if w < 2 ∨ w = 7 then 1 else -1
def sd_dy (w : Int) : Int := if w.tmod 4 = 0 then 0 else if w < 4 then 1 else -1
def sd_f (g : Int → Int) (k h : Nat) : Int := (g (1120 + 3 * (k : Int) + 2) * g (1150 + 2 * (h : Int) + 1)).tdiv 10
def sd_w (g : Int → Int) (h : Nat) (x y : Int) (k : Nat) : Bool := decide (0 < g (1120 + 3 * (k : Int) + 2)) && sd_n (g (1120 + 3 * (k : Int))) (g (1120 + 3 * (k : Int) + 1)) (sd_dx (g (1150 + 2 * (h : Int)))) (sd_dy (g (1150 + 2 * (h : Int)))) x y (sd_f g k h + 1).toNat
def sd (g : Int → Int) (h : Nat) (x y : Int) : Nat → Bool
  | 0 => false
  | k + 1 => sd g h x y k || sd_w g h x y k
/-- WALLS and SUNS in their bounds -/
def h_F (g : Int → Int) : Prop := (∀ k : Nat, k < 10 → (0 ≤ g (1120 + 3 * (k : Int)) ∧ g (1120 + 3 * (k : Int)) ≤ 19) ∧ (0 ≤ g (1120 + 3 * (k : Int) + 1) ∧ g (1120 + 3 * (k : Int) + 1) ≤ 11) ∧ 0 ≤ g (1120 + 3 * (k : Int) + 2) ∧ g (1120 + 3 * (k : Int) + 2) ≤ 30) ∧ ∀ h : Nat, h < 12 → (0 ≤ g (1150 + 2 * (h : Int)) ∧ g (1150 + 2 * (h : Int)) ≤ 7) ∧ 0 ≤ g (1150 + 2 * (h : Int) + 1) ∧ g (1150 + 2 * (h : Int) + 1) ≤ 30
def h_t34 (M : EM) : Prop := ∀ w : Nat, w < 8 → M 3 w = sd_dx (w : Int) ∧ M 4 w = sd_dy (w : Int)
/-- the class's roof, as the reference's row -/
def sd_R (M : EM) (g : Int → Int) : Prop := (∀ j : Nat, j < 10 → M 27 j = g (1120 + 3 * (j : Int)) ∧ M 28 j = g (1120 + 3 * (j : Int) + 1) ∧ M 29 j = g (1120 + 3 * (j : Int) + 2)) ∧ (∀ j : Nat, j < 12 → M 30 j = g (1150 + 2 * (j : Int)) ∧ M 31 j = g (1150 + 2 * (j : Int) + 1)) ∧ h_t34 M ∧ h_F g
theorem sd_dx_bd (w : Int) : sd_dx w = -1 ∨ sd_dx w = 0 ∨ sd_dx w = 1 := by
  unfold sd_dx
  split
  · exact Or.inr (Or.inl rfl)
  · split
    · exact Or.inr (Or.inr rfl)
    · exact Or.inl rfl
theorem sd_dy_bd (w : Int) : sd_dy w = -1 ∨ sd_dy w = 0 ∨ sd_dy w = 1 := by
  unfold sd_dy
  split
  · exact Or.inr (Or.inl rfl)
  · split
    · exact Or.inr (Or.inr rfl)
    · exact Or.inl rfl
theorem sd_mul {m d : Int} (hm : 0 ≤ m ∧ m ≤ 100) (hd : d = -1 ∨ d = 0 ∨ d = 1) : -100 ≤ m * d ∧ m * d ≤ 100 := by
  rcases hd with e | e | e
  · rw [e]; omega
  · rw [e]; omega
  · rw [e]; omega
theorem sd_fb {H L : Int} (hH : 0 ≤ H ∧ H ≤ 30) (hL : 0 ≤ L ∧ L ≤ 30) : (0 ≤ H * L ∧ H * L ≤ 900) ∧ 0 ≤ (H * L).tdiv 10 ∧ (H * L).tdiv 10 ≤ 90 := by
  have a : 0 ≤ H * L := Int.mul_nonneg hH.1 hL.1
  have b : H * L ≤ H * 30 := Int.mul_le_mul_of_nonneg_left hL.2 hH.1
  rw [Int.tdiv_eq_ediv_of_nonneg a]
  omega
section SD
variable {M : EM} {g : Int → Int}
theorem sd_at3 {N : EM} {w : Nat} {wi : Int} (ht : h_t34 N) (hw : wi = w) (h8 : w < 8) : E_C 146 [3, wi] N = some (sd_dx wi, N) ∧ E_C 146 [4, wi] N = some (sd_dy wi, N) := by
  have s3 : (e_sh (3 : Int).toNat) = (100, 8) := by decide +kernel
  have s4 : (e_sh (4 : Int).toNat) = (100, 8) := by decide +kernel
  obtain ⟨t1, t2⟩ := ht w h8
  have ew : wi.toNat = w := by omega
  refine ⟨?_, ?_⟩
  · rw [c_at 3 wi N (Or.inr ⟨by decide, by decide, by rw [s3]⟩), s3, if_pos ⟨by decide, by omega, by show wi < ((8 : Nat) : Int); omega⟩, ew, hw]
    exact congrArg some (congrArg (·, N) t1)
  · rw [c_at 4 wi N (Or.inr ⟨by decide, by decide, by rw [s4]⟩), s4, if_pos ⟨by decide, by omega, by show wi < ((8 : Nat) : Int); omega⟩, ew, hw]
    exact congrArg some (congrArg (·, N) t2)
/-- the class casts the shade of one WALL -/
theorem sd_75l {M0 : EM} {k F w : Nat} {kk hh wi fr X Y : Int} {Z : Int → Int → Bool} (ht : h_t34 M0) (hk : kk = k) (hk10 : k < 10) (hw : wi = w) (hw8 : w < 8) (hF : fr + 1 = F) (hfr : 0 ≤ fr ∧ fr ≤ 90) (h27 : M0 27 k = X) (h28 : M0 28 k = Y) (hX : 0 ≤ X ∧ X ≤ 19) (hY : 0 ≤ Y ∧ Y ≤ 11) : ∀ (d m : Nat) (x6 x7 x8 : Int) (N : EM), x6 = m → m + d = F → (∀ x y : Nat, x < 20 → y < 12 → N 191 (20 * y + x) = if (Z (x : Int) (y : Int) || sd_n X Y (sd_dx wi) (sd_dy wi) (x : Int) (y : Int) m) = true then 1 else 0) → (∀ id i, id ≠ 191 → N id i = M0 id i) → ∃ N', E_V 75 35 [26, kk, hh, 191, wi, fr, x6, x7, x8] N = some (0, N') ∧ (∀ x y : Nat, x < 20 → y < 12 → N' 191 (20 * y + x) = if (Z (x : Int) (y : Int) || sd_n X Y (sd_dx wi) (sd_dy wi) (x : Int) (y : Int) F) = true then 1 else 0) ∧ ∀ id i, id ≠ 191 → N' id i = M0 id i := by
  intro d
  induction d with
  | zero =>
    intro m x6 x7 x8 N hx hm h1 h2
    have e : m = F := by omega
    subst e
    have q : ¬ (x6 ≤ fr) := by omega
    refine ⟨N, ?_, h1, h2⟩
    clear h1 h2 ht
    rw [E_V_eq]
    show e_tv E_C (E_V 75) e_t75_35 [26, kk, hh, 191, wi, fr, x6, x7, x8] N = _
    unfold e_t75_35
    simp [zq_a, zq_b, zq_c, zq_d, zq_e, zq_f, zq_g, zq_h, zq_i, zq_j, zq_k, zq_l, zq_m, zq_n, zq_o, zq_p, zq_q, zq_r, zq_s, zq_t, zq_u, zq_v, zq_w, zq_x, zq_y, zq_z, zq_A, zq_B, zq_C, zq_D, zq_E, zq_F, zq_G, zq_H, zq_I, zq_J, zq_K, zq_L, ↓zq_M, ↓zq_N, ↓zq_O, ↓zq_P, ↓zq_Q, ↓zq_R, zq_S, zq_T, zq_U, zq_V, zq_W, zq_X, zq_Y, zq_Z, zq_0, zq_1, zq_2, zq_3, zq_4, zq_5, ↓zq_6, ↓zq_7, ↓zq_8, ↓zq_9, ↓zq_aa, zq_ab, zq_ac, zq_ad, zq_ae, zq_af, zq_ag, ↓zq_ah, ↓zq_ai, ↓zq_aj, zq_ak, ↓zq_al, ↓zq_am, e_b1, e_b2, x_o1, x_o2, q]
  | succ d ih =>
    intro m x6 x7 x8 N hx hm h1 h2
    have q : x6 ≤ fr := by omega
    have htN : h_t34 N := fun w hw => by rw [h2 _ _ (by decide), h2 _ _ (by decide)]; exact ht w hw
    obtain ⟨a3, a4⟩ := sd_at3 htN hw hw8
    have t27 : E_C 146 [27, kk] N = some (X, N) := (w_atN (a := 27) (n := 10) (by decide +kernel) (j := k) hk hk10 N).trans (by rw [show N (27 : Int).toNat k = X from (h2 _ _ (by decide)).trans h27])
    have t28 : E_C 146 [28, kk] N = some (Y, N) := (w_atN (a := 28) (n := 10) (by decide +kernel) (j := k) hk hk10 N).trans (by rw [show N (28 : Int).toNat k = Y from (h2 _ _ (by decide)).trans h28])
    have bx := sd_mul (m := x6) (by omega) (sd_dx_bd wi)
    have bY := sd_mul (m := x6) (by omega) (sd_dy_bd wi)
    have w1 : e_w (x6 + 1) = x6 + 1 := a_w_id (by omega) (by omega)
    have s123 : ∀ a b N, E_V 75 123 [26, kk, hh, 191, wi, fr, x6, a, b] N = E_V 75 35 [26, kk, hh, 191, wi, fr, x6 + 1, a, b] N := fun a b N => by
      rw [E_V_eq]
      show e_tv E_C (E_V 75) e_t75_123 [26, kk, hh, 191, wi, fr, x6, a, b] N = _
      unfold e_t75_123
      simp [zq_a, zq_b, zq_c, zq_d, zq_e, zq_f, zq_g, zq_h, zq_i, zq_j, zq_k, zq_l, zq_m, zq_n, zq_o, zq_p, zq_q, zq_r, zq_s, zq_t, zq_u, zq_v, zq_w, zq_x, zq_y, zq_z, zq_A, zq_B, zq_C, zq_D, zq_E, zq_F, zq_G, zq_H, zq_I, zq_J, zq_K, zq_L, ↓zq_M, ↓zq_N, ↓zq_O, ↓zq_P, ↓zq_Q, ↓zq_R, zq_S, zq_T, zq_U, zq_V, zq_W, zq_X, zq_Y, zq_Z, zq_0, zq_1, zq_2, zq_3, zq_4, zq_5, ↓zq_6, ↓zq_7, ↓zq_8, ↓zq_9, ↓zq_aa, zq_ab, zq_ac, zq_ad, zq_ae, zq_af, zq_ag, ↓zq_ah, ↓zq_ai, ↓zq_aj, zq_ak, ↓zq_al, ↓zq_am, e_b1, e_b2, x_o1, x_o2, w1]
    have es : ∀ x y : Int, sd_n X Y (sd_dx wi) (sd_dy wi) x y (m + 1) = (sd_n X Y (sd_dx wi) (sd_dy wi) x y m || (decide (X + x6 * sd_dx wi = x) && decide (Y + x6 * sd_dy wi = y))) := fun x y => by rw [hx]; rfl
    -- where it falls
    obtain ⟨px, hpx⟩ : ∃ px, X + x6 * sd_dx wi = px := ⟨_, rfl⟩
    obtain ⟨py, hpy⟩ : ∃ py, Y + x6 * sd_dy wi = py := ⟨_, rfl⟩
    have w2 : e_w (x6 * sd_dx wi) = x6 * sd_dx wi := a_w_id (by omega) (by omega)
    have w3 : e_w (x6 * sd_dy wi) = x6 * sd_dy wi := a_w_id (by omega) (by omega)
    have w4 : e_w (X + x6 * sd_dx wi) = px := (a_w_id (by omega) (by omega)).trans hpx
    have w5 : e_w (Y + x6 * sd_dy wi) = py := (a_w_id (by omega) (by omega)).trans hpy
    rw [hpx, hpy] at es
    by_cases c : (0 ≤ px ∧ px < 20) ∧ 0 ≤ py ∧ py < 12
    · obtain ⟨⟨c1, c2⟩, c3, c4⟩ := c
      obtain ⟨ux, hux⟩ : ∃ ux : Nat, px = ux := ⟨px.toNat, by omega⟩
      obtain ⟨uy, huy⟩ : ∃ uy : Nat, py = uy := ⟨py.toNat, by omega⟩
      have w6 : e_w (py * 20) = py * 20 := a_w_id (by omega) (by omega)
      have w7 : e_w (py * 20 + px) = py * 20 + px := a_w_id (by omega) (by omega)
      have l1 : E_C 147 [191, py * 20 + px, 1] N = some (0, e_up N 191 (20 * uy + ux) 1) := w_layN (a := 191) (n := 240) (by decide +kernel) (j := 20 * uy + ux) (by omega) (by omega) 1 N
      obtain ⟨N', k1, k2, k3⟩ := ih (m + 1) (x6 + 1) px py (e_up N 191 (20 * uy + ux) 1) (by omega) (by omega) (fun x y hx20 hy12 => by
        rw [es]
        by_cases e : x = ux ∧ y = uy
        · obtain ⟨rfl, rfl⟩ := e
          rw [c_up_s, hux, huy, decide_eq_true rfl, decide_eq_true rfl]
          simp
        · rw [c_up_n (fun h => e (by omega)), h1 x y hx20 hy12]
          have f : (decide (px = (x : Int)) && decide (py = (y : Int))) = false := by
            rw [Bool.and_eq_false_iff, decide_eq_false_iff_not, decide_eq_false_iff_not]
            omega
          rw [f, Bool.or_false]) (fun id i hid => by rw [c_up_n (by omega)]; exact h2 id i hid)
      refine ⟨N', ?_, k2, k3⟩
      rw [← k1, ← s123]
      clear ih h1 h2 k1 k2 k3 s123 es ht htN hpx hpy
      generalize sd_dx wi = dx at *
      generalize sd_dy wi = dy at *
      have c2_n : ¬ 20 ≤ px := by omega
      have c1_n : ¬ px < 0 := by omega
      have c3_n : ¬ py < 0 := by omega
      have c4_n : ¬ 12 ≤ py := by omega
      rw [E_V_eq]
      show e_tv E_C (E_V 75) e_t75_35 [26, kk, hh, 191, wi, fr, x6, x7, x8] N = _
      unfold e_t75_35
      simp [zq_a, zq_b, zq_c, zq_d, zq_e, zq_f, zq_g, zq_h, zq_i, zq_j, zq_k, zq_l, zq_m, zq_n, zq_o, zq_p, zq_q, zq_r, zq_s, zq_t, zq_u, zq_v, zq_w, zq_x, zq_y, zq_z, zq_A, zq_B, zq_C, zq_D, zq_E, zq_F, zq_G, zq_H, zq_I, zq_J, zq_K, zq_L, ↓zq_M, ↓zq_N, ↓zq_O, ↓zq_P, ↓zq_Q, ↓zq_R, zq_S, zq_T, zq_U, zq_V, zq_W, zq_X, zq_Y, zq_Z, zq_0, zq_1, zq_2, zq_3, zq_4, zq_5, ↓zq_6, ↓zq_7, ↓zq_8, ↓zq_9, ↓zq_aa, zq_ab, zq_ac, zq_ad, zq_ae, zq_af, zq_ag, ↓zq_ah, ↓zq_ai, ↓zq_aj, zq_ak, ↓zq_al, ↓zq_am, e_b1, e_b2, x_o1, x_o2, p_384, p_385, q, t27, t28, a3, a4, w2, w3, w4, w5, w6, w7, c1, c2, c3, c4, c1_n, c2_n, c3_n, c4_n, l1]
    · obtain ⟨N', k1, k2, k3⟩ := ih (m + 1) (x6 + 1) px py N (by omega) (by omega) (fun x y hx20 hy12 => by
        rw [es, h1 x y hx20 hy12]
        have f : (decide (px = (x : Int)) && decide (py = (y : Int))) = false := by
          rw [Bool.and_eq_false_iff, decide_eq_false_iff_not, decide_eq_false_iff_not]
          omega
        rw [f, Bool.or_false]) h2
      refine ⟨N', ?_, k2, k3⟩
      rw [← k1, ← s123]
      clear ih h1 h2 k1 k2 k3 s123 es ht htN hpx hpy
      generalize sd_dx wi = dx at *
      generalize sd_dy wi = dy at *
      rcases x_le 0 px with ⟨c1, c1_n⟩ | ⟨c1, c1_n⟩
      · rcases x_lt px 20 with ⟨c2, c2_n⟩ | ⟨c2, c2_n⟩
        · rcases x_le 0 py with ⟨c3, c3_n⟩ | ⟨c3, c3_n⟩
          · have c4 : ¬ py < 12 := fun e => c ⟨⟨c1, c2⟩, c3, e⟩
            rw [E_V_eq]
            show e_tv E_C (E_V 75) e_t75_35 [26, kk, hh, 191, wi, fr, x6, x7, x8] N = _
            unfold e_t75_35
            simp [zq_a, zq_b, zq_c, zq_d, zq_e, zq_f, zq_g, zq_h, zq_i, zq_j, zq_k, zq_l, zq_m, zq_n, zq_o, zq_p, zq_q, zq_r, zq_s, zq_t, zq_u, zq_v, zq_w, zq_x, zq_y, zq_z, zq_A, zq_B, zq_C, zq_D, zq_E, zq_F, zq_G, zq_H, zq_I, zq_J, zq_K, zq_L, ↓zq_M, ↓zq_N, ↓zq_O, ↓zq_P, ↓zq_Q, ↓zq_R, zq_S, zq_T, zq_U, zq_V, zq_W, zq_X, zq_Y, zq_Z, zq_0, zq_1, zq_2, zq_3, zq_4, zq_5, ↓zq_6, ↓zq_7, ↓zq_8, ↓zq_9, ↓zq_aa, zq_ab, zq_ac, zq_ad, zq_ae, zq_af, zq_ag, ↓zq_ah, ↓zq_ai, ↓zq_aj, zq_ak, ↓zq_al, ↓zq_am, e_b1, e_b2, x_o1, x_o2, p_384, p_385, q, t27, t28, a3, a4, w2, w3, w4, w5, c1, c1_n, c2, c2_n, c3, c3_n, c4]
          · rw [E_V_eq]
            show e_tv E_C (E_V 75) e_t75_35 [26, kk, hh, 191, wi, fr, x6, x7, x8] N = _
            unfold e_t75_35
            simp [zq_a, zq_b, zq_c, zq_d, zq_e, zq_f, zq_g, zq_h, zq_i, zq_j, zq_k, zq_l, zq_m, zq_n, zq_o, zq_p, zq_q, zq_r, zq_s, zq_t, zq_u, zq_v, zq_w, zq_x, zq_y, zq_z, zq_A, zq_B, zq_C, zq_D, zq_E, zq_F, zq_G, zq_H, zq_I, zq_J, zq_K, zq_L, ↓zq_M, ↓zq_N, ↓zq_O, ↓zq_P, ↓zq_Q, ↓zq_R, zq_S, zq_T, zq_U, zq_V, zq_W, zq_X, zq_Y, zq_Z, zq_0, zq_1, zq_2, zq_3, zq_4, zq_5, ↓zq_6, ↓zq_7, ↓zq_8, ↓zq_9, ↓zq_aa, zq_ab, zq_ac, zq_ad, zq_ae, zq_af, zq_ag, ↓zq_ah, ↓zq_ai, ↓zq_aj, zq_ak, ↓zq_al, ↓zq_am, e_b1, e_b2, x_o1, x_o2, p_384, p_385, q, t27, t28, a3, a4, w2, w3, w4, w5, c1, c1_n, c2, c2_n, c3, c3_n]
        · rw [E_V_eq]
          show e_tv E_C (E_V 75) e_t75_35 [26, kk, hh, 191, wi, fr, x6, x7, x8] N = _
          unfold e_t75_35
          simp [zq_a, zq_b, zq_c, zq_d, zq_e, zq_f, zq_g, zq_h, zq_i, zq_j, zq_k, zq_l, zq_m, zq_n, zq_o, zq_p, zq_q, zq_r, zq_s, zq_t, zq_u, zq_v, zq_w, zq_x, zq_y, zq_z, zq_A, zq_B, zq_C, zq_D, zq_E, zq_F, zq_G, zq_H, zq_I, zq_J, zq_K, zq_L, ↓zq_M, ↓zq_N, ↓zq_O, ↓zq_P, ↓zq_Q, ↓zq_R, zq_S, zq_T, zq_U, zq_V, zq_W, zq_X, zq_Y, zq_Z, zq_0, zq_1, zq_2, zq_3, zq_4, zq_5, ↓zq_6, ↓zq_7, ↓zq_8, ↓zq_9, ↓zq_aa, zq_ab, zq_ac, zq_ad, zq_ae, zq_af, zq_ag, ↓zq_ah, ↓zq_ai, ↓zq_aj, zq_ak, ↓zq_al, ↓zq_am, e_b1, e_b2, x_o1, x_o2, p_384, p_385, q, t27, t28, a3, a4, w2, w3, w4, w5, c1, c1_n, c2, c2_n]
      · rw [E_V_eq]
        show e_tv E_C (E_V 75) e_t75_35 [26, kk, hh, 191, wi, fr, x6, x7, x8] N = _
        unfold e_t75_35
        simp [zq_a, zq_b, zq_c, zq_d, zq_e, zq_f, zq_g, zq_h, zq_i, zq_j, zq_k, zq_l, zq_m, zq_n, zq_o, zq_p, zq_q, zq_r, zq_s, zq_t, zq_u, zq_v, zq_w, zq_x, zq_y, zq_z, zq_A, zq_B, zq_C, zq_D, zq_E, zq_F, zq_G, zq_H, zq_I, zq_J, zq_K, zq_L, ↓zq_M, ↓zq_N, ↓zq_O, ↓zq_P, ↓zq_Q, ↓zq_R, zq_S, zq_T, zq_U, zq_V, zq_W, zq_X, zq_Y, zq_Z, zq_0, zq_1, zq_2, zq_3, zq_4, zq_5, ↓zq_6, ↓zq_7, ↓zq_8, ↓zq_9, ↓zq_aa, zq_ab, zq_ac, zq_ad, zq_ae, zq_af, zq_ag, ↓zq_ah, ↓zq_ai, ↓zq_aj, zq_ak, ↓zq_al, ↓zq_am, e_b1, e_b2, x_o1, x_o2, p_384, p_385, q, t27, t28, a3, a4, w2, w3, w4, w5, c1, c1_n]
theorem sd_75 {k h : Nat} {kk hh : Int} {Z : Int → Int → Bool} (hR : sd_R M g) (hk : kk = k) (hk10 : k < 10) (hh' : hh = h) (h12 : h < 12) (h1 : ∀ x y : Nat, x < 20 → y < 12 → M 191 (20 * y + x) = if Z (x : Int) (y : Int) = true then 1 else 0) : ∃ N', E_C 75 [26, kk, hh, 191] M = some (0, N') ∧ (∀ x y : Nat, x < 20 → y < 12 → N' 191 (20 * y + x) = if (Z (x : Int) (y : Int) || sd_n (g (1120 + 3 * (k : Int))) (g (1120 + 3 * (k : Int) + 1)) (sd_dx (g (1150 + 2 * (h : Int)))) (sd_dy (g (1150 + 2 * (h : Int)))) (x : Int) (y : Int) (sd_f g k h + 1).toNat) = true then 1 else 0) ∧ ∀ id i, id ≠ 191 → N' id i = M id i := by
  obtain ⟨r1, r2, ht, f1, f2⟩ := hR
  obtain ⟨a1, a2, a3⟩ := r1 k hk10
  obtain ⟨b1, b2⟩ := r2 h h12
  obtain ⟨⟨x1, x2⟩, ⟨y1, y2⟩, z1⟩ := f1 k hk10
  obtain ⟨d1, d2⟩ := f2 h h12
  obtain ⟨w, hw⟩ : ∃ w : Nat, g (1150 + 2 * (h : Int)) = w := ⟨(g (1150 + 2 * (h : Int))).toNat, by omega⟩
  have fb := sd_fb z1 d2
  have hf : 0 ≤ sd_f g k h ∧ sd_f g k h ≤ 90 := fb.2
  obtain ⟨N', k1, k2, k3⟩ := sd_75l (M0 := M) (kk := kk) (hh := hh) (Z := Z) (F := (sd_f g k h + 1).toNat) (fr := sd_f g k h) ht hk hk10 hw (by omega) (by omega) hf a1 a2 ⟨x1, x2⟩ ⟨y1, y2⟩ (sd_f g k h + 1).toNat 0 0 0 0 M rfl (by omega) (fun x y h20 h12 => by
    rw [h1 x y h20 h12]
    show _ = if (Z (x : Int) (y : Int) || false) = true then (1 : Int) else 0
    rw [Bool.or_false]) (fun _ _ _ => rfl)
  refine ⟨N', ?_, k2, k3⟩
  have t30 : E_C 146 [30, hh] M = some (g (1150 + 2 * (h : Int)), M) := (w_atN (a := 30) (n := 12) (by decide +kernel) (j := h) hh' h12 M).trans (by rw [show M (30 : Int).toNat h = _ from b1])
  have t31 : E_C 146 [31, hh] M = some (g (1150 + 2 * (h : Int) + 1), M) := (w_atN (a := 31) (n := 12) (by decide +kernel) (j := h) hh' h12 M).trans (by rw [show M (31 : Int).toNat h = _ from b2])
  have t29 : E_C 146 [29, kk] M = some (g (1120 + 3 * (k : Int) + 2), M) := (w_atN (a := 29) (n := 10) (by decide +kernel) (j := k) hk hk10 M).trans (by rw [show M (29 : Int).toNat k = _ from a3])
  have s0 : E_C 75 [26, kk, hh, 191] M = e_tv E_C (E_V 75) e_t75_0 [26, kk, hh, 191, 0, 0, 0, 0, 0] M := r_ent (u := 75) (as := [26, kk, hh, 191]) (M := M) (show e_rok 75 [26, kk, hh, 191] = true from by
    unfold e_rok
    rw [show q_rc (e_vm 75) = some 6 by decide +kernel]
    exact decide_eq_true (show e_isO 6 26 by decide +kernel))
  rw [s0]
  unfold e_t75_0
  clear k2 k3 r1 r2 ht f1 f2 h1
  unfold sd_f at k1 hf
  generalize g (1120 + 3 * (k : Int) + 2) = H at *
  generalize g (1150 + 2 * (h : Int) + 1) = L at *
  have w1 : e_w (H * L) = H * L := a_w_id (by omega) (by omega)
  have w2 : e_w ((H * L).tdiv 10) = (H * L).tdiv 10 := a_w_id (by omega) (by omega)
  generalize g (1150 + 2 * (h : Int)) = W at *
  simp [zq_a, zq_b, zq_c, zq_d, zq_e, zq_f, zq_g, zq_h, zq_i, zq_j, zq_k, zq_l, zq_m, zq_n, zq_o, zq_p, zq_q, zq_r, zq_s, zq_t, zq_u, zq_v, zq_w, zq_x, zq_y, zq_z, zq_A, zq_B, zq_C, zq_D, zq_E, zq_F, zq_G, zq_H, zq_I, zq_J, zq_K, zq_L, ↓zq_M, ↓zq_N, ↓zq_O, ↓zq_P, ↓zq_Q, ↓zq_R, zq_S, zq_T, zq_U, zq_V, zq_W, zq_X, zq_Y, zq_Z, zq_0, zq_1, zq_2, zq_3, zq_4, zq_5, ↓zq_6, ↓zq_7, ↓zq_8, ↓zq_9, ↓zq_aa, zq_ab, zq_ac, zq_ad, zq_ae, zq_af, zq_ag, ↓zq_ah, ↓zq_ai, ↓zq_aj, zq_ak, ↓zq_al, ↓zq_am, e_b1, e_b2, x_o1, x_o2, p_386, p_387, p_388, t29, t30, t31, w1, w2, k1]
theorem sd_74 {h : Nat} {hh : Int} (hR : sd_R M g) (hh' : hh = h) (h12 : h < 12) : ∃ N, E_C 74 [26, hh, 191] M = some (0, N) ∧ (∀ x y : Nat, x < 20 → y < 12 → N 191 (20 * y + x) = if sd g h (x : Int) (y : Int) 10 = true then 1 else 0) ∧ ∀ id i, id ≠ 191 → N id i = M id i := by
  have lp : ∀ (d k : Nat) (x3 : Int) (N : EM), x3 = k → k + d = 10 → (∀ x y : Nat, x < 20 → y < 12 → N 191 (20 * y + x) = if sd g h (x : Int) (y : Int) k = true then 1 else 0) → (∀ id i, id ≠ 191 → N id i = M id i) → ∃ N', E_V 74 7 [26, hh, 191, x3] N = some (0, N') ∧ (∀ x y : Nat, x < 20 → y < 12 → N' 191 (20 * y + x) = if sd g h (x : Int) (y : Int) 10 = true then 1 else 0) ∧ ∀ id i, id ≠ 191 → N' id i = M id i := by
    intro d
    induction d with
    | zero =>
      intro k x3 N hx hk h1 h2
      have e : k = 10 := by omega
      subst e
      have q : ¬ (x3 < 10) := by omega
      refine ⟨N, ?_, h1, h2⟩
      clear h1 h2
      rw [E_V_eq]
      show e_tv E_C (E_V 74) e_t74_7 [26, hh, 191, x3] N = _
      unfold e_t74_7
      simp [zq_a, zq_b, zq_c, zq_d, zq_e, zq_f, zq_g, zq_h, zq_i, zq_j, zq_k, zq_l, zq_m, zq_n, zq_o, zq_p, zq_q, zq_r, zq_s, zq_t, zq_u, zq_v, zq_w, zq_x, zq_y, zq_z, zq_A, zq_B, zq_C, zq_D, zq_E, zq_F, zq_G, zq_H, zq_I, zq_J, zq_K, zq_L, ↓zq_M, ↓zq_N, ↓zq_O, ↓zq_P, ↓zq_Q, ↓zq_R, zq_S, zq_T, zq_U, zq_V, zq_W, zq_X, zq_Y, zq_Z, zq_0, zq_1, zq_2, zq_3, zq_4, zq_5, ↓zq_6, ↓zq_7, ↓zq_8, ↓zq_9, ↓zq_aa, zq_ab, zq_ac, zq_ad, zq_ae, zq_af, zq_ag, ↓zq_ah, ↓zq_ai, ↓zq_aj, zq_ak, ↓zq_al, ↓zq_am, e_b1, e_b2, x_o1, x_o2, q]
    | succ d ih =>
      intro k x3 N hx hk h1 h2
      have q : x3 < 10 := by omega
      have w1 : e_w (x3 + 1) = x3 + 1 := a_w_id (by omega) (by omega)
      have hRN : sd_R N g := by
        obtain ⟨r1, r2, ht, f⟩ := hR
        refine ⟨fun j hj => ?_, fun j hj => ?_, fun w hw => ?_, f⟩
        · rw [h2 _ _ (by decide), h2 _ _ (by decide), h2 _ _ (by decide)]; exact r1 j hj
        · rw [h2 _ _ (by decide), h2 _ _ (by decide)]; exact r2 j hj
        · rw [h2 _ _ (by decide), h2 _ _ (by decide)]; exact ht w hw
      have t29 : E_C 146 [29, x3] N = some (g (1120 + 3 * (k : Int) + 2), N) := (w_atN (a := 29) (n := 10) (by decide +kernel) (j := k) hx (by omega) N).trans (by rw [show N (29 : Int).toNat k = _ from (hRN.1 k (by omega)).2.2])
      have s31 : ∀ N, E_V 74 31 [26, hh, 191, x3] N = E_V 74 7 [26, hh, 191, x3 + 1] N := fun N => by
        rw [E_V_eq]
        show e_tv E_C (E_V 74) e_t74_31 [26, hh, 191, x3] N = _
        unfold e_t74_31
        simp [zq_a, zq_b, zq_c, zq_d, zq_e, zq_f, zq_g, zq_h, zq_i, zq_j, zq_k, zq_l, zq_m, zq_n, zq_o, zq_p, zq_q, zq_r, zq_s, zq_t, zq_u, zq_v, zq_w, zq_x, zq_y, zq_z, zq_A, zq_B, zq_C, zq_D, zq_E, zq_F, zq_G, zq_H, zq_I, zq_J, zq_K, zq_L, ↓zq_M, ↓zq_N, ↓zq_O, ↓zq_P, ↓zq_Q, ↓zq_R, zq_S, zq_T, zq_U, zq_V, zq_W, zq_X, zq_Y, zq_Z, zq_0, zq_1, zq_2, zq_3, zq_4, zq_5, ↓zq_6, ↓zq_7, ↓zq_8, ↓zq_9, ↓zq_aa, zq_ab, zq_ac, zq_ad, zq_ae, zq_af, zq_ag, ↓zq_ah, ↓zq_ai, ↓zq_aj, zq_ak, ↓zq_al, ↓zq_am, e_b1, e_b2, x_o1, x_o2, w1]
      have es : ∀ x y : Int, sd g h x y (k + 1) = (sd g h x y k || (decide (0 < g (1120 + 3 * (k : Int) + 2)) && sd_n (g (1120 + 3 * (k : Int))) (g (1120 + 3 * (k : Int) + 1)) (sd_dx (g (1150 + 2 * (h : Int)))) (sd_dy (g (1150 + 2 * (h : Int)))) x y (sd_f g k h + 1).toNat)) := fun x y => rfl
      rcases x_lt 0 (g (1120 + 3 * (k : Int) + 2)) with ⟨c, c_n⟩ | ⟨c, c_n⟩
      · obtain ⟨N1, k1, k2, k3⟩ := sd_75 (kk := x3) (hh := hh) (Z := fun x y => sd g h x y k) hRN hx (by omega) hh' h12 h1
        obtain ⟨N', m1, m2, m3⟩ := ih (k + 1) (x3 + 1) N1 (by omega) (by omega) (fun x y h20 h12 => by
          rw [k2 x y h20 h12, es, decide_eq_true c, Bool.true_and]) (fun id i hid => (k3 id i hid).trans (h2 id i hid))
        refine ⟨N', ?_, m2, m3⟩
        rw [← m1, ← s31]
        clear ih h1 h2 k2 k3 m1 m2 m3 es s31 hRN hR
        generalize g (1120 + 3 * (k : Int) + 2) = H at *
        rw [E_V_eq]
        show e_tv E_C (E_V 74) e_t74_7 [26, hh, 191, x3] N = _
        unfold e_t74_7
        simp [zq_a, zq_b, zq_c, zq_d, zq_e, zq_f, zq_g, zq_h, zq_i, zq_j, zq_k, zq_l, zq_m, zq_n, zq_o, zq_p, zq_q, zq_r, zq_s, zq_t, zq_u, zq_v, zq_w, zq_x, zq_y, zq_z, zq_A, zq_B, zq_C, zq_D, zq_E, zq_F, zq_G, zq_H, zq_I, zq_J, zq_K, zq_L, ↓zq_M, ↓zq_N, ↓zq_O, ↓zq_P, ↓zq_Q, ↓zq_R, zq_S, zq_T, zq_U, zq_V, zq_W, zq_X, zq_Y, zq_Z, zq_0, zq_1, zq_2, zq_3, zq_4, zq_5, ↓zq_6, ↓zq_7, ↓zq_8, ↓zq_9, ↓zq_aa, zq_ab, zq_ac, zq_ad, zq_ae, zq_af, zq_ag, ↓zq_ah, ↓zq_ai, ↓zq_aj, zq_ak, ↓zq_al, ↓zq_am, e_b1, e_b2, x_o1, x_o2, p_386, q, t29, c, c_n, k1]
      · obtain ⟨N', m1, m2, m3⟩ := ih (k + 1) (x3 + 1) N (by omega) (by omega) (fun x y h20 h12 => by
          rw [h1 x y h20 h12, es, decide_eq_false c, Bool.false_and, Bool.or_false]) h2
        refine ⟨N', ?_, m2, m3⟩
        rw [← m1, ← s31]
        clear ih h1 h2 m1 m2 m3 es s31 hRN hR
        generalize g (1120 + 3 * (k : Int) + 2) = H at *
        rw [E_V_eq]
        show e_tv E_C (E_V 74) e_t74_7 [26, hh, 191, x3] N = _
        unfold e_t74_7
        simp [zq_a, zq_b, zq_c, zq_d, zq_e, zq_f, zq_g, zq_h, zq_i, zq_j, zq_k, zq_l, zq_m, zq_n, zq_o, zq_p, zq_q, zq_r, zq_s, zq_t, zq_u, zq_v, zq_w, zq_x, zq_y, zq_z, zq_A, zq_B, zq_C, zq_D, zq_E, zq_F, zq_G, zq_H, zq_I, zq_J, zq_K, zq_L, ↓zq_M, ↓zq_N, ↓zq_O, ↓zq_P, ↓zq_Q, ↓zq_R, zq_S, zq_T, zq_U, zq_V, zq_W, zq_X, zq_Y, zq_Z, zq_0, zq_1, zq_2, zq_3, zq_4, zq_5, ↓zq_6, ↓zq_7, ↓zq_8, ↓zq_9, ↓zq_aa, zq_ab, zq_ac, zq_ad, zq_ae, zq_af, zq_ag, ↓zq_ah, ↓zq_ai, ↓zq_aj, zq_ak, ↓zq_al, ↓zq_am, e_b1, e_b2, x_o1, x_o2, p_386, q, t29, c, c_n]
  have fl := bx_fill (a := 191) (n := 240) (v := 0) (by decide) (by decide +kernel) (by decide +kernel) (by decide) M
  have fl : E_C 270 [191, 0] M = some (0, bx_fl M 191 240 0 0) := fl
  obtain ⟨N', k1, k2, k3⟩ := lp 10 0 0 (bx_fl M 191 240 0 0) rfl (by omega) (fun x y h20 h12 => by
    show bx_fl M 191 240 0 0 191 (20 * y + x) = if false = true then (1 : Int) else 0
    unfold bx_fl
    rw [if_pos ⟨rfl, Nat.zero_le _, by omega⟩]
    rfl) (fun id i hid => by
    unfold bx_fl
    rw [if_neg (fun e => hid e.1)])
  refine ⟨N', ?_, k2, k3⟩
  have s0 : E_C 74 [26, hh, 191] M = e_tv E_C (E_V 74) e_t74_0 [26, hh, 191, 0] M := r_ent (u := 74) (as := [26, hh, 191]) (M := M) (show e_rok 74 [26, hh, 191] = true from by
    unfold e_rok
    rw [show q_rc (e_vm 74) = some 6 by decide +kernel]
    exact decide_eq_true (show e_isO 6 26 by decide +kernel))
  rw [s0]
  unfold e_t74_0
  clear k2 k3
  simp [zq_a, zq_b, zq_c, zq_d, zq_e, zq_f, zq_g, zq_h, zq_i, zq_j, zq_k, zq_l, zq_m, zq_n, zq_o, zq_p, zq_q, zq_r, zq_s, zq_t, zq_u, zq_v, zq_w, zq_x, zq_y, zq_z, zq_A, zq_B, zq_C, zq_D, zq_E, zq_F, zq_G, zq_H, zq_I, zq_J, zq_K, zq_L, ↓zq_M, ↓zq_N, ↓zq_O, ↓zq_P, ↓zq_Q, ↓zq_R, zq_S, zq_T, zq_U, zq_V, zq_W, zq_X, zq_Y, zq_Z, zq_0, zq_1, zq_2, zq_3, zq_4, zq_5, ↓zq_6, ↓zq_7, ↓zq_8, ↓zq_9, ↓zq_aa, zq_ab, zq_ac, zq_ad, zq_ae, zq_af, zq_ag, ↓zq_ah, ↓zq_ai, ↓zq_aj, zq_ak, ↓zq_al, ↓zq_am, e_b1, e_b2, x_o1, x_o2, fl, k1]
end SD
