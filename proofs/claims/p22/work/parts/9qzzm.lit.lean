/-! LIT, by class and reference; the pair -/
def lc_y (f : Int → Bool) : Nat → Int → Int
  | 0, _ => 0
  | n + 1, y => (if f y = true then 0 else 1) + lc_y f n (y + 1)
def lc_x (f : Int → Int → Bool) (y0 : Int) (ny : Nat) : Nat → Int → Int
  | 0, _ => 0
  | n + 1, x => lc_y (f x) ny y0 + lc_x f y0 ny n (x + 1)
theorem lc_y_bd {f : Int → Bool} : ∀ n y, 0 ≤ lc_y f n y ∧ lc_y f n y ≤ n := by
  intro n
  induction n with
  | zero => intro y; exact ⟨Int.le_refl _, Int.le_refl _⟩
  | succ n ih =>
    intro y
    have a := ih (y + 1)
    show 0 ≤ (if f y = true then 0 else 1) + lc_y f n (y + 1) ∧ (if f y = true then 0 else 1) + lc_y f n (y + 1) ≤ ((n + 1 : Nat) : Int)
    split <;> omega
theorem lc_x_bd {f : Int → Int → Bool} {y0 : Int} {ny : Nat} (h : ny ≤ 12) : ∀ n x, 0 ≤ lc_x f y0 ny n x ∧ lc_x f y0 ny n x ≤ 12 * n := by
  intro n
  induction n with
  | zero => intro x; exact ⟨Int.le_refl _, Int.le_refl _⟩
  | succ n ih =>
    intro x
    have a := ih (x + 1)
    have b := lc_y_bd (f := f x) ny y0
    show 0 ≤ lc_y (f x) ny y0 + lc_x f y0 ny n (x + 1) ∧ lc_y (f x) ny y0 + lc_x f y0 ny n (x + 1) ≤ 12 * ((n + 1 : Nat) : Int)
    omega
/-- LIT of CELL q in HOUR h -/
def ax_T (g : Int → Int) (h : Nat) (q : Int) : Int := if g (28 * q + 20) = 0 then 100 else (100 * lc_x (fun x y => sd g h x y 10) (g (28 * q + 22)) (g (28 * q + 24) - g (28 * q + 22) + 1).toNat (g (28 * q + 23) - g (28 * q + 21) + 1).toNat (g (28 * q + 21))).tdiv ((g (28 * q + 23) - g (28 * q + 21) + 1) * (g (28 * q + 24) - g (28 * q + 22) + 1))
theorem lt_q {s a : Int} (h0 : 0 ≤ s) (h1 : s ≤ a) (ha : 1 ≤ a) : 0 ≤ (100 * s).tdiv a ∧ (100 * s).tdiv a ≤ 100 := by
  rw [Int.tdiv_eq_ediv_of_nonneg (by omega)]
  refine ⟨Int.ediv_nonneg (by omega) (by omega), ?_⟩
  have : (100 * s) / a ≤ (100 * a) / a := Int.ediv_le_ediv (by omega) (by omega)
  rw [Int.mul_ediv_cancel _ (by omega)] at this
  exact this
theorem lt_pl {a b : Nat} (ha : a ≤ 20) (hb : b ≤ 12) : a * b ≤ 240 := Nat.le_trans (Nat.mul_le_mul ha hb) (by decide)
theorem sd_up {X Y dx dy x y : Int} {m n : Nat} (h : m ≤ n) (hm : sd_n X Y dx dy x y m = true) : sd_n X Y dx dy x y n = true := by
  induction n with
  | zero =>
    have e : m = 0 := by omega
    rw [← e]; exact hm
  | succ n ih =>
    by_cases e : m = n + 1
    · rw [← e]; exact hm
    · show (sd_n X Y dx dy x y n || _) = true
      rw [ih (by omega), Bool.true_or]
theorem sd_up2 {g : Int → Int} {h : Nat} {x y : Int} {m n : Nat} (hmn : m ≤ n) (hm : sd g h x y m = true) : sd g h x y n = true := by
  induction n with
  | zero =>
    have e : m = 0 := by omega
    rw [← e]; exact hm
  | succ n ih =>
    by_cases e : m = n + 1
    · rw [← e]; exact hm
    · show (sd g h x y n || _) = true
      rw [ih (by omega), Bool.true_or]
section LT
variable {M : EM} {g : Int → Int}
/-- the shades of an HOUR are laid -/
def lt_S (N : EM) (f : Int → Int → Bool) : Prop := ∀ x y : Nat, x < 20 → y < 12 → N 191 (20 * y + x) = if f (x : Int) (y : Int) = true then 1 else 0
/-- the class: one column of PLACES -/
theorem lt_59 {N : EM} {f : Int → Int → Bool} {q x3 x4 x7 : Int} {xn : Nat} (hS : lt_S N f) (hx : x7 = xn) (hx20 : xn < 20) {yb : Int} (hyb : x4.tmod 100 = yb) (hy12 : yb ≤ 11) : ∀ (d yn : Nat) (x5 x6 x8 : Int), x8 = yn → (yn : Int) + d = yb + 1 → 0 ≤ x5 → x5 + d ≤ 1000 → 0 ≤ x6 → x6 + d ≤ 1000 → E_V 38 59 [18, q, 191, x3, x4, x5, x6, x7, x8] N = E_V 38 43 [18, q, 191, x3, x4, x5 + d, x6 + lc_y (f x7) d x8, x7 + 1, yb + 1] N := by
  intro d
  induction d with
  | zero =>
    intro yn x5 x6 x8 hy hd h5 h55 h6 h66
    have qq : ¬ (x8 ≤ yb) := by omega
    have e8 : x8 = yb + 1 := by omega
    have w1 : e_w (x7 + 1) = x7 + 1 := a_w_id (by omega) (by omega)
    show _ = E_V 38 43 [18, q, 191, x3, x4, x5 + 0, x6 + 0, x7 + 1, yb + 1] N
    rw [Int.add_zero, Int.add_zero, ← e8]
    clear hS
    rw [E_V_eq]
    show e_tv E_C (E_V 38) e_t38_59 [18, q, 191, x3, x4, x5, x6, x7, x8] N = _
    unfold e_t38_59
    simp [zq_a, zq_b, zq_c, zq_d, zq_e, zq_f, zq_g, zq_h, zq_i, zq_j, zq_k, zq_l, zq_m, zq_n, zq_o, zq_p, zq_q, zq_r, zq_s, zq_t, zq_u, zq_v, zq_w, zq_x, zq_y, zq_z, zq_A, zq_B, zq_C, zq_D, zq_E, zq_F, zq_G, zq_H, zq_I, zq_J, zq_K, zq_L, ↓zq_M, ↓zq_N, ↓zq_O, ↓zq_P, ↓zq_Q, ↓zq_R, zq_S, zq_T, zq_U, zq_V, zq_W, zq_X, zq_Y, zq_Z, zq_0, zq_1, zq_2, zq_3, zq_4, zq_5, ↓zq_6, ↓zq_7, ↓zq_8, ↓zq_9, ↓zq_aa, zq_ab, zq_ac, zq_ad, zq_ae, zq_af, zq_ag, ↓zq_ah, ↓zq_ai, ↓zq_aj, zq_ak, ↓zq_al, ↓zq_am, e_b1, e_b2, x_o1, x_o2, hyb, qq, w1]
  | succ d ih =>
    intro yn x5 x6 x8 hy hd h5 h55 h6 h66
    have qq : x8 ≤ yb := by omega
    have t : E_C 146 [191, x8 * 20 + x7] N = some (if f x7 x8 = true then 1 else 0, N) := (w_atN (a := 191) (n := 240) (by decide +kernel) (j := 20 * yn + xn) (by omega) (by omega) N).trans (by rw [show N (191 : Int).toNat (20 * yn + xn) = _ from hS xn yn hx20 (by omega), hx, hy])
    have w1 : e_w (x8 * 20) = x8 * 20 := a_w_id (by omega) (by omega)
    have w2 : e_w (x8 * 20 + x7) = x8 * 20 + x7 := a_w_id (by omega) (by omega)
    have w3 : e_w (x5 + 1) = x5 + 1 := a_w_id (by omega) (by omega)
    have w4 : e_w (x6 + 1) = x6 + 1 := a_w_id (by omega) (by omega)
    have w5 : e_w x6 = x6 := a_w_id (by omega) (by omega)
    have w6 : e_w (x8 + 1) = x8 + 1 := a_w_id (by omega) (by omega)
    show _ = E_V 38 43 [18, q, 191, x3, x4, x5 + ((d + 1 : Nat) : Int), x6 + ((if f x7 x8 = true then 0 else 1) + lc_y (f x7) d (x8 + 1)), x7 + 1, yb + 1] N
    by_cases c : f x7 x8 = true
    · have k := ih (yn + 1) (x5 + 1) x6 (x8 + 1) (by omega) (by omega) (by omega) (by omega) (by omega) (by omega)
      rw [if_pos c] at t
      rw [if_pos c, Int.zero_add, show x5 + ((d + 1 : Nat) : Int) = x5 + 1 + (d : Int) by omega, ← k]
      clear ih k hS
      rw [E_V_eq]
      show e_tv E_C (E_V 38) e_t38_59 [18, q, 191, x3, x4, x5, x6, x7, x8] N = _
      unfold e_t38_59
      simp [zq_a, zq_b, zq_c, zq_d, zq_e, zq_f, zq_g, zq_h, zq_i, zq_j, zq_k, zq_l, zq_m, zq_n, zq_o, zq_p, zq_q, zq_r, zq_s, zq_t, zq_u, zq_v, zq_w, zq_x, zq_y, zq_z, zq_A, zq_B, zq_C, zq_D, zq_E, zq_F, zq_G, zq_H, zq_I, zq_J, zq_K, zq_L, ↓zq_M, ↓zq_N, ↓zq_O, ↓zq_P, ↓zq_Q, ↓zq_R, zq_S, zq_T, zq_U, zq_V, zq_W, zq_X, zq_Y, zq_Z, zq_0, zq_1, zq_2, zq_3, zq_4, zq_5, ↓zq_6, ↓zq_7, ↓zq_8, ↓zq_9, ↓zq_aa, zq_ab, zq_ac, zq_ad, zq_ae, zq_af, zq_ag, ↓zq_ah, ↓zq_ai, ↓zq_aj, zq_ak, ↓zq_al, ↓zq_am, e_b1, e_b2, x_o1, x_o2, hyb, qq, t, w1, w2, w3, w5, w6]
    · have k := ih (yn + 1) (x5 + 1) (x6 + 1) (x8 + 1) (by omega) (by omega) (by omega) (by omega) (by omega) (by omega)
      rw [if_neg c] at t
      rw [if_neg c, show x5 + ((d + 1 : Nat) : Int) = x5 + 1 + (d : Int) by omega, ← Int.add_assoc, ← k]
      clear ih k hS
      rw [E_V_eq]
      show e_tv E_C (E_V 38) e_t38_59 [18, q, 191, x3, x4, x5, x6, x7, x8] N = _
      unfold e_t38_59
      simp [zq_a, zq_b, zq_c, zq_d, zq_e, zq_f, zq_g, zq_h, zq_i, zq_j, zq_k, zq_l, zq_m, zq_n, zq_o, zq_p, zq_q, zq_r, zq_s, zq_t, zq_u, zq_v, zq_w, zq_x, zq_y, zq_z, zq_A, zq_B, zq_C, zq_D, zq_E, zq_F, zq_G, zq_H, zq_I, zq_J, zq_K, zq_L, ↓zq_M, ↓zq_N, ↓zq_O, ↓zq_P, ↓zq_Q, ↓zq_R, zq_S, zq_T, zq_U, zq_V, zq_W, zq_X, zq_Y, zq_Z, zq_0, zq_1, zq_2, zq_3, zq_4, zq_5, ↓zq_6, ↓zq_7, ↓zq_8, ↓zq_9, ↓zq_aa, zq_ab, zq_ac, zq_ad, zq_ae, zq_af, zq_ag, ↓zq_ah, ↓zq_ai, ↓zq_aj, zq_ak, ↓zq_al, ↓zq_am, e_b1, e_b2, x_o1, x_o2, hyb, qq, t, w1, w2, w3, w4, w6]
/-- the class: all columns -/
theorem lt_43 {N : EM} {f : Int → Int → Bool} {q x3 x4 y0 yb xb : Int} {ny : Nat} (hS : lt_S N f) (h3 : x3.tmod 100 = y0) (h4 : x4.tmod 100 = yb) (h5 : x4.tdiv 100 = xb) (hy0 : 0 ≤ y0) (hy12 : yb ≤ 11) (hny : y0 + ny = yb + 1) (hn1 : 1 ≤ ny) (hxb : xb ≤ 19) : ∀ (d xn : Nat) (x5 x6 x7 x8 : Int), x7 = xn → (xn : Int) + d = xb + 1 → 0 ≤ x5 → x5 + 12 * d ≤ 900 → 0 ≤ x6 → x6 + 12 * d ≤ 900 → (d = 0 → 1 ≤ x5) → E_V 38 43 [18, q, 191, x3, x4, x5, x6, x7, x8] N = some ((100 * (x6 + lc_x f y0 ny d x7)).tdiv (x5 + d * ny), N) := by
  intro d
  induction d with
  | zero =>
    intro xn x5 x6 x7 x8 hx hd p5 p55 p6 p66 p1
    have qq : ¬ (x7 ≤ xb) := by omega
    have z5 : ¬ x5 = 0 := by have := p1 rfl; omega
    have e : (100 * (x6 + lc_x f y0 ny 0 x7)).tdiv (x5 + ((0 : Nat) : Int) * ny) = (x6 * 100).tdiv x5 := by
      show (100 * (x6 + 0)).tdiv (x5 + (0 : Int) * ny) = _
      rw [Int.add_zero, Int.zero_mul, Int.add_zero, Int.mul_comm]
    rw [e]
    have w1 : e_w (x6 * 100) = x6 * 100 := a_w_id (by omega) (by omega)
    have b : 0 ≤ (x6 * 100).tdiv x5 ∧ (x6 * 100).tdiv x5 ≤ x6 * 100 := by
      rw [Int.tdiv_eq_ediv_of_nonneg (by omega)]
      exact ⟨Int.ediv_nonneg (by omega) p5, Int.ediv_le_self _ (by omega)⟩
    have w2 : e_w ((x6 * 100).tdiv x5) = (x6 * 100).tdiv x5 := a_w_id (by omega) (by omega)
    have wxb : e_w xb = xb := a_w_id (by omega) (by omega)
    clear hS e
    rw [E_V_eq]
    show e_tv E_C (E_V 38) e_t38_43 [18, q, 191, x3, x4, x5, x6, x7, x8] N = _
    unfold e_t38_43
    simp [zq_a, zq_b, zq_c, zq_d, zq_e, zq_f, zq_g, zq_h, zq_i, zq_j, zq_k, zq_l, zq_m, zq_n, zq_o, zq_p, zq_q, zq_r, zq_s, zq_t, zq_u, zq_v, zq_w, zq_x, zq_y, zq_z, zq_A, zq_B, zq_C, zq_D, zq_E, zq_F, zq_G, zq_H, zq_I, zq_J, zq_K, zq_L, ↓zq_M, ↓zq_N, ↓zq_O, ↓zq_P, ↓zq_Q, ↓zq_R, zq_S, zq_T, zq_U, zq_V, zq_W, zq_X, zq_Y, zq_Z, zq_0, zq_1, zq_2, zq_3, zq_4, zq_5, ↓zq_6, ↓zq_7, ↓zq_8, ↓zq_9, ↓zq_aa, zq_ab, zq_ac, zq_ad, zq_ae, zq_af, zq_ag, ↓zq_ah, ↓zq_ai, ↓zq_aj, zq_ak, ↓zq_al, ↓zq_am, e_b1, e_b2, x_o1, x_o2, h5, wxb, qq, z5, w1, w2]
  | succ d ih =>
    intro xn x5 x6 x7 x8 hx hd p5 p55 p6 p66 p1
    have qq : x7 ≤ xb := by omega
    obtain ⟨yn, hyn⟩ : ∃ yn : Nat, y0 = yn := ⟨y0.toNat, by omega⟩
    have k1 := lt_59 (q := q) (x3 := x3) hS hx (by omega) h4 hy12 ny yn x5 x6 y0 hyn (by omega) p5 (by omega) p6 (by omega)
    have cy := lc_y_bd (f := f x7) ny y0
    have k2 := ih (xn + 1) (x5 + ny) (x6 + lc_y (f x7) ny y0) (x7 + 1) (yb + 1) (by omega) (by omega) (by omega) (by omega) (by omega) (by omega) (fun _ => by omega)
    have e1 : x5 + (ny : Int) + (d : Int) * (ny : Int) = x5 + ((d + 1 : Nat) : Int) * (ny : Int) := by
      rw [Int.natCast_succ, Int.add_mul, Int.one_mul]
      omega
    have e2 : x6 + lc_y (f x7) ny y0 + lc_x f y0 ny d (x7 + 1) = x6 + lc_x f y0 ny (d + 1) x7 := by
      show _ = x6 + (lc_y (f x7) ny y0 + lc_x f y0 ny d (x7 + 1))
      omega
    rw [e1, e2] at k2
    rw [← k2, ← k1]
    have wxb : e_w xb = xb := a_w_id (by omega) (by omega)
    clear ih k1 k2 hS e1 e2 cy
    rw [E_V_eq]
    show e_tv E_C (E_V 38) e_t38_43 [18, q, 191, x3, x4, x5, x6, x7, x8] N = _
    unfold e_t38_43
    simp [zq_a, zq_b, zq_c, zq_d, zq_e, zq_f, zq_g, zq_h, zq_i, zq_j, zq_k, zq_l, zq_m, zq_n, zq_o, zq_p, zq_q, zq_r, zq_s, zq_t, zq_u, zq_v, zq_w, zq_x, zq_y, zq_z, zq_A, zq_B, zq_C, zq_D, zq_E, zq_F, zq_G, zq_H, zq_I, zq_J, zq_K, zq_L, ↓zq_M, ↓zq_N, ↓zq_O, ↓zq_P, ↓zq_Q, ↓zq_R, zq_S, zq_T, zq_U, zq_V, zq_W, zq_X, zq_Y, zq_Z, zq_0, zq_1, zq_2, zq_3, zq_4, zq_5, ↓zq_6, ↓zq_7, ↓zq_8, ↓zq_9, ↓zq_aa, zq_ab, zq_ac, zq_ad, zq_ae, zq_af, zq_ag, ↓zq_ah, ↓zq_ai, ↓zq_aj, zq_ak, ↓zq_al, ↓zq_am, e_b1, e_b2, x_o1, x_o2, h3, h5, wxb, qq]
theorem lt_38 {N : EM} {q h : Nat} {qi : Int} (hq : qi = q) (hq40 : q < 40) (hl : r_lies g (q : Int)) (hS : lt_S N (fun x y => sd g h x y 10)) (hC : (g (28 * (q : Int) + 20) = 0 ∧ N 23 q = -1 ∧ N 24 q = -1) ∨ (g (28 * (q : Int) + 20) = 1 ∧ N 23 q = 100 * g (28 * (q : Int) + 21) + g (28 * (q : Int) + 22) ∧ N 24 q = 100 * g (28 * (q : Int) + 23) + g (28 * (q : Int) + 24))) : E_C 38 [18, qi, 191] N = some (ax_T g h (q : Int), N) := by
  have s0 : E_C 38 [18, qi, 191] N = e_tv E_C (E_V 38) e_t38_0 [18, qi, 191, 0, 0, 0, 0, 0, 0] N := r_ent (u := 38) (as := [18, qi, 191]) (M := N) (show e_rok 38 [18, qi, 191] = true from by
    unfold e_rok
    rw [show q_rc (e_vm 38) = some 1 by decide +kernel]
    exact decide_eq_true (show e_isO 1 18 by decide +kernel))
  have g4 : ∀ M, e_gf 68 [18] M = some 23 := fun M => p_g 68 18 23 M (by decide +kernel)
  have g5 : ∀ M, e_gf 69 [18] M = some 24 := fun M => p_g 69 18 24 M (by decide +kernel)
  have t1 : E_C 146 [23, qi] N = some (N 23 q, N) := w_atN (a := 23) (n := 40) (by decide +kernel) (j := q) hq hq40 N
  have t2 : E_C 146 [24, qi] N = some (N 24 q, N) := w_atN (a := 24) (n := 40) (by decide +kernel) (j := q) hq hq40 N
  rw [s0]
  unfold e_t38_0 ax_T
  rcases hC with ⟨c0, c1, c2⟩ | ⟨c0, c1, c2⟩
  · rw [if_pos c0]
    rw [c1] at t1
    rw [c2] at t2
    clear hS
    simp [zq_a, zq_b, zq_c, zq_d, zq_e, zq_f, zq_g, zq_h, zq_i, zq_j, zq_k, zq_l, zq_m, zq_n, zq_o, zq_p, zq_q, zq_r, zq_s, zq_t, zq_u, zq_v, zq_w, zq_x, zq_y, zq_z, zq_A, zq_B, zq_C, zq_D, zq_E, zq_F, zq_G, zq_H, zq_I, zq_J, zq_K, zq_L, ↓zq_M, ↓zq_N, ↓zq_O, ↓zq_P, ↓zq_Q, ↓zq_R, zq_S, zq_T, zq_U, zq_V, zq_W, zq_X, zq_Y, zq_Z, zq_0, zq_1, zq_2, zq_3, zq_4, zq_5, ↓zq_6, ↓zq_7, ↓zq_8, ↓zq_9, ↓zq_aa, zq_ab, zq_ac, zq_ad, zq_ae, zq_af, zq_ag, ↓zq_ah, ↓zq_ai, ↓zq_aj, zq_ak, ↓zq_al, ↓zq_am, e_b1, e_b2, x_o1, x_o2, g4, g5, t1, t2]
  · rw [if_neg (by omega)]
    rw [c1] at t1
    rw [c2] at t2
    have hl := hl.resolve_left (by omega)
    generalize g (28 * (q : Int) + 21) = x0 at *
    generalize g (28 * (q : Int) + 22) = y0 at *
    generalize g (28 * (q : Int) + 23) = xb at *
    generalize g (28 * (q : Int) + 24) = yb at *
    obtain ⟨l1, l2, l3, l4, l5, l6⟩ := hl
    obtain ⟨A, hA⟩ : ∃ A, 100 * x0 + y0 = A := ⟨_, rfl⟩
    obtain ⟨B, hB⟩ : ∃ B, 100 * xb + yb = B := ⟨_, rfl⟩
    rw [hA] at t1
    rw [hB] at t2
    have d1 : A.tdiv 100 = x0 := by rw [Int.tdiv_eq_ediv_of_nonneg (by omega)]; omega
    have m1 : A.tmod 100 = y0 := by rw [Int.tmod_eq_emod_of_nonneg (by omega)]; omega
    have d2 : B.tdiv 100 = xb := by rw [Int.tdiv_eq_ediv_of_nonneg (by omega)]; omega
    have m2 : B.tmod 100 = yb := by rw [Int.tmod_eq_emod_of_nonneg (by omega)]; omega
    have w1 : e_w x0 = x0 := a_w_id (by omega) (by omega)
    have p1 : ¬ B < 0 := by omega
    have p2 : 0 ≤ A := by omega
    have p3 : ¬ A < 0 := by omega
    obtain ⟨ny, hny⟩ : ∃ ny : Nat, yb - y0 + 1 = ny := ⟨(yb - y0 + 1).toNat, by omega⟩
    obtain ⟨nx, hnx⟩ : ∃ nx : Nat, xb - x0 + 1 = nx := ⟨(xb - x0 + 1).toNat, by omega⟩
    have k := lt_43 (ny := ny) (q := qi) (x3 := A) (x4 := B) hS m1 m2 d2 l4 l6 (by omega) (by omega) l3 nx x0.toNat 0 0 x0 0 (by omega) (by omega) (by decide) (by omega) (by decide) (by omega) (fun h => by omega)
    rw [Int.zero_add, Int.zero_add] at k
    rw [hny, hnx, Int.toNat_natCast, Int.toNat_natCast]
    clear hS
    simp [zq_a, zq_b, zq_c, zq_d, zq_e, zq_f, zq_g, zq_h, zq_i, zq_j, zq_k, zq_l, zq_m, zq_n, zq_o, zq_p, zq_q, zq_r, zq_s, zq_t, zq_u, zq_v, zq_w, zq_x, zq_y, zq_z, zq_A, zq_B, zq_C, zq_D, zq_E, zq_F, zq_G, zq_H, zq_I, zq_J, zq_K, zq_L, ↓zq_M, ↓zq_N, ↓zq_O, ↓zq_P, ↓zq_Q, ↓zq_R, zq_S, zq_T, zq_U, zq_V, zq_W, zq_X, zq_Y, zq_Z, zq_0, zq_1, zq_2, zq_3, zq_4, zq_5, ↓zq_6, ↓zq_7, ↓zq_8, ↓zq_9, ↓zq_aa, zq_ab, zq_ac, zq_ad, zq_ae, zq_af, zq_ag, ↓zq_ah, ↓zq_ai, ↓zq_aj, zq_ak, ↓zq_al, ↓zq_am, e_b1, e_b2, x_o1, x_o2, g4, g5, t1, t2, p1, p2, p3, d1, w1, k]
/-- the reference: steps of one WALL's shade -/
theorem lt_127 {x y h X Y dx dy fr H : Int} {kk k : Nat} {x7 : Int} (hk : x7 = k) (hk10 : k < 10) (gX : r_G M (1120 + 3 * (k : Int)) = X) (gY : r_G M (1120 + 3 * (k : Int) + 1) = Y) (hX : 0 ≤ X ∧ X ≤ 19) (hY : 0 ≤ Y ∧ Y ≤ 11) (hdx : dx = -1 ∨ dx = 0 ∨ dx = 1) (hdy : dy = -1 ∨ dy = 0 ∨ dy = 1) (hH : 0 < H) (hfr : 0 ≤ fr ∧ fr ≤ 90) (hF : fr + 1 = kk) (w : Int) : ∀ (d m : Nat) (x10 : Int), x10 = m → m + d = kk → sd_n X Y dx dy x y m = false → ∃ z, E_V 222 127 [192, x, y, h, w, dx, dy, x7, H, fr, x10] M = (if sd_n X Y dx dy x y kk = true then some (1, M) else E_V 222 78 [192, x, y, h, w, dx, dy, x7 + 1, H, fr, z] M) := by
  intro d
  induction d with
  | zero =>
    intro m x10 hx hm hn
    have e : m = kk := by omega
    subst e
    refine ⟨x10, ?_⟩
    have q : ¬ (x10 ≤ fr) := by omega
    have w1 : e_w (x7 + 1) = x7 + 1 := a_w_id (by omega) (by omega)
    rw [hn, if_neg (by decide)]
    rw [E_V_eq]
    show e_tv E_C (E_V 222) e_t222_127 [192, x, y, h, w, dx, dy, x7, H, fr, x10] M = _
    unfold e_t222_127
    simp [zq_a, zq_b, zq_c, zq_d, zq_e, zq_f, zq_g, zq_h, zq_i, zq_j, zq_k, zq_l, zq_m, zq_n, zq_o, zq_p, zq_q, zq_r, zq_s, zq_t, zq_u, zq_v, zq_w, zq_x, zq_y, zq_z, zq_A, zq_B, zq_C, zq_D, zq_E, zq_F, zq_G, zq_H, zq_I, zq_J, zq_K, zq_L, ↓zq_M, ↓zq_N, ↓zq_O, ↓zq_P, ↓zq_Q, ↓zq_R, zq_S, zq_T, zq_U, zq_V, zq_W, zq_X, zq_Y, zq_Z, zq_0, zq_1, zq_2, zq_3, zq_4, zq_5, ↓zq_6, ↓zq_7, ↓zq_8, ↓zq_9, ↓zq_aa, zq_ab, zq_ac, zq_ad, zq_ae, zq_af, zq_ag, ↓zq_ah, ↓zq_ai, ↓zq_aj, zq_ak, ↓zq_al, ↓zq_am, e_b1, e_b2, x_o1, x_o2, q, w1]
  | succ d ih =>
    intro m x10 hx hm hn
    have q : x10 ≤ fr := by omega
    have b1 := sd_mul (m := x10) (by omega) hdx
    have b2 := sd_mul (m := x10) (by omega) hdy
    have w0 : e_w (3 * x7) = 3 * x7 := a_w_id (by omega) (by omega)
    have w1 : e_w (1120 + 3 * x7) = 1120 + 3 * x7 := a_w_id (by omega) (by omega)
    have w2 : e_w (1120 + 3 * x7 + 1) = 1120 + 3 * x7 + 1 := a_w_id (by omega) (by omega)
    have l1 : e_op 60 [193, 1120 + 3 * x7] M = some X := (r_rd (by omega) (by omega)).trans (by rw [hk, gX])
    have l2 : e_op 60 [193, 1120 + 3 * x7 + 1] M = some Y := (r_rd (by omega) (by omega)).trans (by rw [hk, gY])
    have w3 : e_w (x10 * dx) = x10 * dx := a_w_id (by omega) (by omega)
    have w4 : e_w (x10 * dy) = x10 * dy := a_w_id (by omega) (by omega)
    have w5 : e_w (X + x10 * dx) = X + x10 * dx := a_w_id (by omega) (by omega)
    have w6 : e_w (Y + x10 * dy) = Y + x10 * dy := a_w_id (by omega) (by omega)
    have w7 : e_w (x10 + 1) = x10 + 1 := a_w_id (by omega) (by omega)
    have es : sd_n X Y dx dy x y (m + 1) = (decide (X + x10 * dx = x) && decide (Y + x10 * dy = y)) := by
      show (sd_n X Y dx dy x y m || _) = _
      rw [hn, Bool.false_or, hx]
    by_cases c : X + x10 * dx = x ∧ Y + x10 * dy = y
    · obtain ⟨c1, c2⟩ := c
      have hit : sd_n X Y dx dy x y kk = true := sd_up (m := m + 1) (by omega) (by rw [es, decide_eq_true c1, decide_eq_true c2]; rfl)
      refine ⟨0, ?_⟩
      rw [hit, if_pos rfl]
      clear ih es hit hn
      rw [c1] at w5
      rw [c2] at w6
      rw [E_V_eq]
      show e_tv E_C (E_V 222) e_t222_127 [192, x, y, h, w, dx, dy, x7, H, fr, x10] M = _
      unfold e_t222_127
      simp [zq_a, zq_b, zq_c, zq_d, zq_e, zq_f, zq_g, zq_h, zq_i, zq_j, zq_k, zq_l, zq_m, zq_n, zq_o, zq_p, zq_q, zq_r, zq_s, zq_t, zq_u, zq_v, zq_w, zq_x, zq_y, zq_z, zq_A, zq_B, zq_C, zq_D, zq_E, zq_F, zq_G, zq_H, zq_I, zq_J, zq_K, zq_L, ↓zq_M, ↓zq_N, ↓zq_O, ↓zq_P, ↓zq_Q, ↓zq_R, zq_S, zq_T, zq_U, zq_V, zq_W, zq_X, zq_Y, zq_Z, zq_0, zq_1, zq_2, zq_3, zq_4, zq_5, ↓zq_6, ↓zq_7, ↓zq_8, ↓zq_9, ↓zq_aa, zq_ab, zq_ac, zq_ad, zq_ae, zq_af, zq_ag, ↓zq_ah, ↓zq_ai, ↓zq_aj, zq_ak, ↓zq_al, ↓zq_am, e_b1, e_b2, x_o1, x_o2, r_O0, q, hH, w0, w1, w2, w3, w4, w5, w6, l1, l2, c1, c2]
    · have hn' : sd_n X Y dx dy x y (m + 1) = false := by
        rw [es, Bool.and_eq_false_iff, decide_eq_false_iff_not, decide_eq_false_iff_not]
        by_cases c1 : X + x10 * dx = x
        · exact Or.inr (fun e => c ⟨c1, e⟩)
        · exact Or.inl c1
      obtain ⟨z, k⟩ := ih (m + 1) (x10 + 1) (by omega) (by omega) hn'
      refine ⟨z, ?_⟩
      rw [← k]
      clear ih es hn hn' k
      by_cases c1 : X + x10 * dx = x
      · have c2 : ¬ Y + x10 * dy = y := fun e => c ⟨c1, e⟩
        rw [c1] at w5
        rw [E_V_eq]
        show e_tv E_C (E_V 222) e_t222_127 [192, x, y, h, w, dx, dy, x7, H, fr, x10] M = _
        unfold e_t222_127
        simp [zq_a, zq_b, zq_c, zq_d, zq_e, zq_f, zq_g, zq_h, zq_i, zq_j, zq_k, zq_l, zq_m, zq_n, zq_o, zq_p, zq_q, zq_r, zq_s, zq_t, zq_u, zq_v, zq_w, zq_x, zq_y, zq_z, zq_A, zq_B, zq_C, zq_D, zq_E, zq_F, zq_G, zq_H, zq_I, zq_J, zq_K, zq_L, ↓zq_M, ↓zq_N, ↓zq_O, ↓zq_P, ↓zq_Q, ↓zq_R, zq_S, zq_T, zq_U, zq_V, zq_W, zq_X, zq_Y, zq_Z, zq_0, zq_1, zq_2, zq_3, zq_4, zq_5, ↓zq_6, ↓zq_7, ↓zq_8, ↓zq_9, ↓zq_aa, zq_ab, zq_ac, zq_ad, zq_ae, zq_af, zq_ag, ↓zq_ah, ↓zq_ai, ↓zq_aj, zq_ak, ↓zq_al, ↓zq_am, e_b1, e_b2, x_o1, x_o2, r_O0, q, hH, w0, w1, w2, w3, w4, w5, w6, w7, l1, l2, c1, c2]
      · rw [E_V_eq]
        show e_tv E_C (E_V 222) e_t222_127 [192, x, y, h, w, dx, dy, x7, H, fr, x10] M = _
        unfold e_t222_127
        simp [zq_a, zq_b, zq_c, zq_d, zq_e, zq_f, zq_g, zq_h, zq_i, zq_j, zq_k, zq_l, zq_m, zq_n, zq_o, zq_p, zq_q, zq_r, zq_s, zq_t, zq_u, zq_v, zq_w, zq_x, zq_y, zq_z, zq_A, zq_B, zq_C, zq_D, zq_E, zq_F, zq_G, zq_H, zq_I, zq_J, zq_K, zq_L, ↓zq_M, ↓zq_N, ↓zq_O, ↓zq_P, ↓zq_Q, ↓zq_R, zq_S, zq_T, zq_U, zq_V, zq_W, zq_X, zq_Y, zq_Z, zq_0, zq_1, zq_2, zq_3, zq_4, zq_5, ↓zq_6, ↓zq_7, ↓zq_8, ↓zq_9, ↓zq_aa, zq_ab, zq_ac, zq_ad, zq_ae, zq_af, zq_ag, ↓zq_ah, ↓zq_ai, ↓zq_aj, zq_ak, ↓zq_al, ↓zq_am, e_b1, e_b2, x_o1, x_o2, r_O0, q, hH, w0, w1, w2, w3, w4, w5, w6, w7, l1, l2, c1]
/-- the reference: WALL by WALL -/
theorem lt_78 {x y hh : Int} {h : Nat} (hF : h_F (r_G M)) (hh' : hh = h) (h12 : h < 12) : ∀ (d k : Nat) (x7 x8 x9 x10 : Int), x7 = k → k + d = 10 → sd (r_G M) h x y k = false → E_V 222 78 [192, x, y, hh, r_G M (1150 + 2 * (h : Int)), sd_dx (r_G M (1150 + 2 * (h : Int))), sd_dy (r_G M (1150 + 2 * (h : Int))), x7, x8, x9, x10] M = some (if sd (r_G M) h x y 10 = true then 1 else 0, M) := by
  obtain ⟨f1, f2⟩ := hF
  obtain ⟨d1, d2⟩ := f2 h h12
  intro d
  induction d with
  | zero =>
    intro k x7 x8 x9 x10 hx hk hn
    have e : k = 10 := by omega
    subst e
    have q : ¬ (x7 < 10) := by omega
    rw [hn, if_neg (by decide)]
    clear f1 f2 hn
    generalize sd_dx (r_G M (1150 + 2 * (h : Int))) = dx
    generalize sd_dy (r_G M (1150 + 2 * (h : Int))) = dy
    generalize r_G M (1150 + 2 * (h : Int)) = w
    rw [E_V_eq]
    show e_tv E_C (E_V 222) e_t222_78 [192, x, y, hh, w, dx, dy, x7, x8, x9, x10] M = _
    unfold e_t222_78
    simp [zq_a, zq_b, zq_c, zq_d, zq_e, zq_f, zq_g, zq_h, zq_i, zq_j, zq_k, zq_l, zq_m, zq_n, zq_o, zq_p, zq_q, zq_r, zq_s, zq_t, zq_u, zq_v, zq_w, zq_x, zq_y, zq_z, zq_A, zq_B, zq_C, zq_D, zq_E, zq_F, zq_G, zq_H, zq_I, zq_J, zq_K, zq_L, ↓zq_M, ↓zq_N, ↓zq_O, ↓zq_P, ↓zq_Q, ↓zq_R, zq_S, zq_T, zq_U, zq_V, zq_W, zq_X, zq_Y, zq_Z, zq_0, zq_1, zq_2, zq_3, zq_4, zq_5, ↓zq_6, ↓zq_7, ↓zq_8, ↓zq_9, ↓zq_aa, zq_ab, zq_ac, zq_ad, zq_ae, zq_af, zq_ag, ↓zq_ah, ↓zq_ai, ↓zq_aj, zq_ak, ↓zq_al, ↓zq_am, e_b1, e_b2, x_o1, x_o2, q]
  | succ d ih =>
    intro k x7 x8 x9 x10 hx hk hn
    have q : x7 < 10 := by omega
    obtain ⟨⟨a1, a2⟩, ⟨b1, b2⟩, c1⟩ := f1 k (by omega)
    have fb := sd_fb c1 d2
    have w0 : e_w (3 * x7) = 3 * x7 := a_w_id (by omega) (by omega)
    have w1 : e_w (1120 + 3 * x7) = 1120 + 3 * x7 := a_w_id (by omega) (by omega)
    have w2 : e_w (1120 + 3 * x7 + 2) = 1120 + 3 * x7 + 2 := a_w_id (by omega) (by omega)
    have w3 : e_w (2 * hh) = 2 * hh := a_w_id (by omega) (by omega)
    have w4 : e_w (1150 + 2 * hh) = 1150 + 2 * hh := a_w_id (by omega) (by omega)
    have w5 : e_w (1150 + 2 * hh + 1) = 1150 + 2 * hh + 1 := a_w_id (by omega) (by omega)
    have w9 : e_w (x7 + 1) = x7 + 1 := a_w_id (by omega) (by omega)
    have l1 : e_op 60 [193, 1120 + 3 * x7 + 2] M = some (r_G M (1120 + 3 * (k : Int) + 2)) := (r_rd (by omega) (by omega)).trans (by rw [hx])
    have l2 : e_op 60 [193, 1150 + 2 * hh + 1] M = some (r_G M (1150 + 2 * (h : Int) + 1)) := (r_rd (by omega) (by omega)).trans (by rw [hh'])
    have w6 : e_w (r_G M (1120 + 3 * (k : Int) + 2) * r_G M (1150 + 2 * (h : Int) + 1)) = r_G M (1120 + 3 * (k : Int) + 2) * r_G M (1150 + 2 * (h : Int) + 1) := a_w_id (by omega) (by omega)
    have w7 : e_w (sd_f (r_G M) k h) = sd_f (r_G M) k h := by
      unfold sd_f
      exact a_w_id (by omega) (by omega)
    unfold sd_f at w7
    have es : sd (r_G M) h x y (k + 1) = (decide (0 < r_G M (1120 + 3 * (k : Int) + 2)) && sd_n (r_G M (1120 + 3 * (k : Int))) (r_G M (1120 + 3 * (k : Int) + 1)) (sd_dx (r_G M (1150 + 2 * (h : Int)))) (sd_dy (r_G M (1150 + 2 * (h : Int)))) x y (sd_f (r_G M) k h + 1).toNat) := by
      show (sd (r_G M) h x y k || _) = _
      rw [hn, Bool.false_or]
      rfl
    have hfb : 0 ≤ sd_f (r_G M) k h ∧ sd_f (r_G M) k h ≤ 90 := fb.2
    have st : E_V 222 78 [192, x, y, hh, r_G M (1150 + 2 * (h : Int)), sd_dx (r_G M (1150 + 2 * (h : Int))), sd_dy (r_G M (1150 + 2 * (h : Int))), x7, x8, x9, x10] M = E_V 222 127 [192, x, y, hh, r_G M (1150 + 2 * (h : Int)), sd_dx (r_G M (1150 + 2 * (h : Int))), sd_dy (r_G M (1150 + 2 * (h : Int))), x7, r_G M (1120 + 3 * (k : Int) + 2), sd_f (r_G M) k h, 0] M := by
      unfold sd_f
      clear ih f1 f2 es hn hfb fb
      generalize sd_dx (r_G M (1150 + 2 * (h : Int))) = dx
      generalize sd_dy (r_G M (1150 + 2 * (h : Int))) = dy
      generalize r_G M (1150 + 2 * (h : Int)) = w at *
      generalize r_G M (1120 + 3 * (k : Int) + 2) = H at *
      generalize r_G M (1150 + 2 * (h : Int) + 1) = L at *
      rw [E_V_eq]
      show e_tv E_C (E_V 222) e_t222_78 [192, x, y, hh, w, dx, dy, x7, x8, x9, x10] M = _
      unfold e_t222_78
      simp [zq_a, zq_b, zq_c, zq_d, zq_e, zq_f, zq_g, zq_h, zq_i, zq_j, zq_k, zq_l, zq_m, zq_n, zq_o, zq_p, zq_q, zq_r, zq_s, zq_t, zq_u, zq_v, zq_w, zq_x, zq_y, zq_z, zq_A, zq_B, zq_C, zq_D, zq_E, zq_F, zq_G, zq_H, zq_I, zq_J, zq_K, zq_L, ↓zq_M, ↓zq_N, ↓zq_O, ↓zq_P, ↓zq_Q, ↓zq_R, zq_S, zq_T, zq_U, zq_V, zq_W, zq_X, zq_Y, zq_Z, zq_0, zq_1, zq_2, zq_3, zq_4, zq_5, ↓zq_6, ↓zq_7, ↓zq_8, ↓zq_9, ↓zq_aa, zq_ab, zq_ac, zq_ad, zq_ae, zq_af, zq_ag, ↓zq_ah, ↓zq_ai, ↓zq_aj, zq_ak, ↓zq_al, ↓zq_am, e_b1, e_b2, x_o1, x_o2, r_O0, q, w0, w1, w2, w3, w4, w5, w6, w7, l1, l2]
    rw [st]
    rcases x_lt 0 (r_G M (1120 + 3 * (k : Int) + 2)) with ⟨cH, cH_n⟩ | ⟨cH, cH_n⟩
    · obtain ⟨z, kz⟩ := lt_127 (M := M) (x := x) (y := y) (h := hh) (kk := (sd_f (r_G M) k h + 1).toNat) (x7 := x7) hx (by omega) rfl rfl ⟨a1, a2⟩ ⟨b1, b2⟩ (sd_dx_bd (r_G M (1150 + 2 * (h : Int)))) (sd_dy_bd (r_G M (1150 + 2 * (h : Int)))) cH hfb (by omega) (r_G M (1150 + 2 * (h : Int))) (sd_f (r_G M) k h + 1).toNat 0 0 rfl (by omega) rfl
      rw [kz]
      rw [decide_eq_true cH, Bool.true_and] at es
      rw [← es]
      by_cases hit : sd (r_G M) h x y (k + 1) = true
      · rw [if_pos hit, if_pos (sd_up2 (by omega) hit)]
      · rw [if_neg hit]
        exact ih (k + 1) (x7 + 1) _ _ _ (by omega) (by omega) (Bool.eq_false_iff.mpr hit)
    · rw [decide_eq_false cH, Bool.false_and] at es
      have k1 := ih (k + 1) (x7 + 1) (r_G M (1120 + 3 * (k : Int) + 2)) (sd_f (r_G M) k h) 0 (by omega) (by omega) es
      rw [← k1]
      clear ih f1 f2 es hn fb st k1 w6 w7
      generalize sd_f (r_G M) k h = fr at *
      generalize sd_dx (r_G M (1150 + 2 * (h : Int))) = dx
      generalize sd_dy (r_G M (1150 + 2 * (h : Int))) = dy
      generalize r_G M (1150 + 2 * (h : Int)) = w at *
      generalize r_G M (1120 + 3 * (k : Int) + 2) = H at *
      have q0 : 0 ≤ fr := hfb.1
      rw [E_V_eq]
      show e_tv E_C (E_V 222) e_t222_127 [192, x, y, hh, w, dx, dy, x7, H, fr, 0] M = _
      unfold e_t222_127
      simp [zq_a, zq_b, zq_c, zq_d, zq_e, zq_f, zq_g, zq_h, zq_i, zq_j, zq_k, zq_l, zq_m, zq_n, zq_o, zq_p, zq_q, zq_r, zq_s, zq_t, zq_u, zq_v, zq_w, zq_x, zq_y, zq_z, zq_A, zq_B, zq_C, zq_D, zq_E, zq_F, zq_G, zq_H, zq_I, zq_J, zq_K, zq_L, ↓zq_M, ↓zq_N, ↓zq_O, ↓zq_P, ↓zq_Q, ↓zq_R, zq_S, zq_T, zq_U, zq_V, zq_W, zq_X, zq_Y, zq_Z, zq_0, zq_1, zq_2, zq_3, zq_4, zq_5, ↓zq_6, ↓zq_7, ↓zq_8, ↓zq_9, ↓zq_aa, zq_ab, zq_ac, zq_ad, zq_ae, zq_af, zq_ag, ↓zq_ah, ↓zq_ai, ↓zq_aj, zq_ak, ↓zq_al, ↓zq_am, e_b1, e_b2, x_o1, x_o2, q0, cH, cH_n, w9]
theorem lt_222 {x y hh : Int} {h : Nat} (hF : h_F (r_G M)) (hh' : hh = h) (h12 : h < 12) : E_C 222 [192, x, y, hh] M = some (if sd (r_G M) h x y 10 = true then 1 else 0, M) := by
  have k := lt_78 (M := M) (x := x) (y := y) hF hh' h12 10 0 0 0 0 0 rfl rfl rfl
  obtain ⟨d1, d2⟩ := hF.2 h h12
  have w3 : e_w (2 * hh) = 2 * hh := a_w_id (by omega) (by omega)
  have w4 : e_w (1150 + 2 * hh) = 1150 + 2 * hh := a_w_id (by omega) (by omega)
  have l1 : e_op 60 [193, 1150 + 2 * hh] M = some (r_G M (1150 + 2 * (h : Int))) := (r_rd (by omega) (by omega)).trans (by rw [hh'])
  generalize (if sd (r_G M) h x y 10 = true then (1 : Int) else 0) = res at *
  have hw : r_G M (1150 + 2 * (h : Int)) = 0 ∨ r_G M (1150 + 2 * (h : Int)) = 1 ∨ r_G M (1150 + 2 * (h : Int)) = 2 ∨ r_G M (1150 + 2 * (h : Int)) = 3 ∨ r_G M (1150 + 2 * (h : Int)) = 4 ∨ r_G M (1150 + 2 * (h : Int)) = 5 ∨ r_G M (1150 + 2 * (h : Int)) = 6 ∨ r_G M (1150 + 2 * (h : Int)) = 7 := by omega
  clear hF d1 d2
  generalize r_G M (1150 + 2 * (h : Int)) = w at *
  rcases hw with e | e | e | e | e | e | e | e <;> subst e
  all_goals
    have k' : E_V 222 78 [192, x, y, hh, _, _, _, 0, 0, 0, 0] M = some (res, M) := k
    simp [sd_dx, sd_dy] at k'
    rw [r_ent (show e_rok 222 [192, x, y, hh] = true from decide_eq_true r_ref)]
    show e_tv E_C (E_V 222) e_t222_0 [192, x, y, hh, 0, 0, 0, 0, 0, 0, 0] M = _
    unfold e_t222_0
    simp [zq_a, zq_b, zq_c, zq_d, zq_e, zq_f, zq_g, zq_h, zq_i, zq_j, zq_k, zq_l, zq_m, zq_n, zq_o, zq_p, zq_q, zq_r, zq_s, zq_t, zq_u, zq_v, zq_w, zq_x, zq_y, zq_z, zq_A, zq_B, zq_C, zq_D, zq_E, zq_F, zq_G, zq_H, zq_I, zq_J, zq_K, zq_L, ↓zq_M, ↓zq_N, ↓zq_O, ↓zq_P, ↓zq_Q, ↓zq_R, zq_S, zq_T, zq_U, zq_V, zq_W, zq_X, zq_Y, zq_Z, zq_0, zq_1, zq_2, zq_3, zq_4, zq_5, ↓zq_6, ↓zq_7, ↓zq_8, ↓zq_9, ↓zq_aa, zq_ab, zq_ac, zq_ad, zq_ae, zq_af, zq_ag, ↓zq_ah, ↓zq_ai, ↓zq_aj, zq_ak, ↓zq_al, ↓zq_am, e_b1, e_b2, x_o1, x_o2, r_O0, w3, w4, l1, k']
end LT
