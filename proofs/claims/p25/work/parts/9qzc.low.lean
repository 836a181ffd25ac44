/-! PUSH of GROUPS and ROWS, CURRENT at a PUSH by the reference: exactly -/
theorem cu_cl_bd {d t b : Int} (hb : 1 ≤ b) (h : -b ≤ t ∧ t ≤ b) : -b ≤ cu_cl d t ∧ cu_cl d t ≤ b := by
  unfold cu_cl
  by_cases q : d ≠ 0 ∧ t < -1
  · rw [if_pos q]; omega
  · rw [if_neg q]; exact h
theorem cu_R_bd {G v : Nat → Int} {D : Nat → Int} {n : Nat} (hn : n ≤ 8) (h : ∀ k, k < n → -60 ≤ v k ∧ v k ≤ 60) : ∀ m : Nat, -(480 * m) ≤ cu_R G v D n m ∧ cu_R G v D n m ≤ 480 * m := by
  intro m
  induction m with
  | zero => exact ⟨by show -(480 * 0) ≤ (0 : Int); omega, by show (0 : Int) ≤ 480 * 0; omega⟩
  | succ m ih =>
    have a := cu_gs_bd (G := G) (v := v) (y := m) (b := 60) (by decide) n h
    have b := cu_cl_bd (d := D m) (t := cu_gs G v m n) (b := 480) (by decide) ⟨by omega, by omega⟩
    show -(480 * ((m + 1 : Nat) : Int)) ≤ cu_R G v D n m + cu_cl (D m) (cu_gs G v m n) ∧ cu_R G v D n m + cu_cl (D m) (cu_gs G v m n) ≤ 480 * ((m + 1 : Nat) : Int)
    omega
def cu_low (g : Int → Int) (SH WM : Int → Int) (DI : Int → Nat → Int) (p c : Int) : Int := if g (28 * p) = 0 then cu_v g SH WM p c else cu_R (fun k => g (28 * p + 11 + (k : Int))) (fun k => cu_v g SH WM (g (28 * p + 3 + (k : Int))) c) (DI p) (g (28 * p + 2)).toNat (g (28 * p + 19)).toNat
/-- each CELL has a CURVE -/
def hd_cvs (g : Int → Int) : Prop := ∀ q, 0 ≤ q → q < g 1198 → g (28 * q) = 0 → hd_cv g q
section RXL
variable {SH WM : Int → Int} {DI : Int → Nat → Int} {M : EM}
theorem rx_vb {b q c : Int} (hm : rx_md M SH WM DI) (hv : hd_cvs (r_G M)) (hb : b ≤ 40) (hb1 : b ≤ r_G M 1198) (hq : r_cl (r_G M) b q) (hc : 0 ≤ c) : (-20 ≤ cu_v (r_G M) SH WM q c ∧ cu_v (r_G M) SH WM q c ≤ 60) ∧ cu_v (r_G M) SH WM q (c + 1) ≤ cu_v (r_G M) SH WM q c :=
  cu_v_bd (hv q hq.1 (by have := hq.2.1; omega) hq.2.2.1) (hm.1 b q hb hb1 hq).1.2 (hm.1 b q hb hb1 hq).2.1 hc
theorem rx_group {p c : Int} {y n : Nat} (hm : rx_md M SH WM DI) (hv : hd_cvs (r_G M)) (hp : 0 ≤ p ∧ p < 40) (hp1 : p ≤ r_G M 1198) (hn : r_G M (28 * p + 2) = n) (hn8 : n ≤ 8) (hc : 0 ≤ c ∧ c ≤ 2000) (hk : ∀ k, 0 ≤ k → k < r_G M (28 * p + 2) → r_cl (r_G M) p (r_G M (28 * p + 3 + k))) : ∀ (d i : Nat) (x4 x5 : Int), x5 = i → i + d = n → x4 = cu_gs (fun k => r_G M (28 * p + 11 + (k : Int))) (fun k => cu_v (r_G M) SH WM (r_G M (28 * p + 3 + (k : Int))) c) y i → E_V 199 6 [192, p, (y : Int), c, x4, x5] M = some (cu_gs (fun k => r_G M (28 * p + 11 + (k : Int))) (fun k => cu_v (r_G M) SH WM (r_G M (28 * p + 3 + (k : Int))) c) y n, M) := by
  have km : E_C 171 [192, p] M = some (r_G M (28 * p + 2), M) := r_many hp
  obtain ⟨yy, hyy⟩ : ∃ yy : Int, (y : Int) = yy := ⟨_, rfl⟩
  rw [hyy]
  intro d
  induction d with
  | zero =>
    intro i x4 x5 hx hi h4
    have e : i = n := by omega
    subst e
    rw [← h4]
    have q : ¬ (x5 < r_G M (28 * p + 2)) := by omega
    rw [E_V_eq]
    show e_tv E_C (E_V 199) e_t199_6 [192, p, yy, c, x4, x5] M = _
    unfold e_t199_6
    simp [zq_a, zq_b, zq_c, zq_d, zq_e, zq_f, zq_g, zq_h, zq_i, zq_j, zq_k, zq_l, zq_m, zq_n, zq_o, zq_p, zq_q, zq_r, zq_s, zq_t, zq_u, zq_v, zq_w, zq_x, zq_y, zq_z, zq_A, zq_B, zq_C, zq_D, zq_E, zq_F, zq_G, zq_H, zq_I, zq_J, zq_K, zq_L, ↓zq_M, ↓zq_N, ↓zq_O, ↓zq_P, ↓zq_Q, ↓zq_R, zq_S, zq_T, zq_U, zq_V, zq_W, zq_X, zq_Y, zq_Z, zq_0, zq_1, zq_2, zq_3, zq_4, zq_5, ↓zq_6, ↓zq_7, ↓zq_8, ↓zq_9, ↓zq_aa, zq_ab, zq_ac, zq_ad, zq_ae, zq_af, zq_ag, ↓zq_ah, ↓zq_ai, ↓zq_aj, zq_ak, ↓zq_al, ↓zq_am, e_b1, e_b2, x_o1, x_o2, q, km]
  | succ d ih =>
    intro i x4 x5 hx hi h4
    have q : x5 < r_G M (28 * p + 2) := by omega
    have w1 : e_w (28 * p) = 28 * p := a_w_id (by omega) (by omega)
    have w2 : e_w (28 * p + 11) = 28 * p + 11 := a_w_id (by omega) (by omega)
    have w3 : e_w (28 * p + 11 + x5) = 28 * p + 11 + x5 := a_w_id (by omega) (by omega)
    have w4 : e_w (x5 + 1) = x5 + 1 := a_w_id (by omega) (by omega)
    have l1 : e_op 60 [193, 28 * p + 11 + x5] M = some (r_G M (28 * p + 11 + x5)) := r_rd (by omega) (by omega)
    have ko : E_C 172 [192, p, x5] M = some (r_G M (28 * p + 3 + x5), M) := r_of hp ⟨by omega, by omega⟩
    have hcl := hk x5 (by omega) q
    obtain ⟨⟨ks, s1, s2⟩, -⟩ := hm.1 p _ (by omega) hp1 hcl
    have kv := rx_cell (c := c) hm (by omega) hp1 hcl (hv _ hcl.1 (by have := hcl.2.1; omega) hcl.2.2.1) hc
    have bd := cu_gs_bd (G := fun k : Nat => r_G M (28 * p + 11 + (k : Int))) (v := fun k : Nat => cu_v (r_G M) SH WM (r_G M (28 * p + 3 + (k : Int))) c) (y := yy) (b := 60) (by decide) i (fun k hk' => by
      have := (rx_vb (c := c) hm hv (show p ≤ 40 by omega) hp1 (hk (k : Int) (by omega) (by omega)) hc.1).1
      exact ⟨by show -60 ≤ cu_v _ _ _ _ _; omega, this.2⟩)
    have vb := (rx_vb (c := c) hm hv (show p ≤ 40 by omega) hp1 hcl hc.1).1
    have es : cu_gs (fun k => r_G M (28 * p + 11 + (k : Int))) (fun k => cu_v (r_G M) SH WM (r_G M (28 * p + 3 + (k : Int))) c) yy (i + 1) = x4 + (if r_G M (28 * p + 11 + x5) = yy then cu_v (r_G M) SH WM (r_G M (28 * p + 3 + x5)) c else 0) := by
      rw [h4, hx]
      rfl
    have hb4 : -480 ≤ x4 ∧ x4 ≤ 480 := by rw [h4]; omega
    have k := fun x4' e => ih (i + 1) x4' (x5 + 1) (by omega) (by omega) e
    rw [es] at k
    by_cases c1 : r_G M (28 * p + 11 + x5) = yy
    · have w5 : e_w (x4 + cu_v (r_G M) SH WM (r_G M (28 * p + 3 + x5)) c) = x4 + cu_v (r_G M) SH WM (r_G M (28 * p + 3 + x5)) c := a_w_id (by omega) (by omega)
      have k1 := k _ rfl
      rw [if_pos c1] at k1
      rw [E_V_eq]
      show e_tv E_C (E_V 199) e_t199_6 [192, p, yy, c, x4, x5] M = _
      unfold e_t199_6
      simp [zq_a, zq_b, zq_c, zq_d, zq_e, zq_f, zq_g, zq_h, zq_i, zq_j, zq_k, zq_l, zq_m, zq_n, zq_o, zq_p, zq_q, zq_r, zq_s, zq_t, zq_u, zq_v, zq_w, zq_x, zq_y, zq_z, zq_A, zq_B, zq_C, zq_D, zq_E, zq_F, zq_G, zq_H, zq_I, zq_J, zq_K, zq_L, ↓zq_M, ↓zq_N, ↓zq_O, ↓zq_P, ↓zq_Q, ↓zq_R, zq_S, zq_T, zq_U, zq_V, zq_W, zq_X, zq_Y, zq_Z, zq_0, zq_1, zq_2, zq_3, zq_4, zq_5, ↓zq_6, ↓zq_7, ↓zq_8, ↓zq_9, ↓zq_aa, zq_ab, zq_ac, zq_ad, zq_ae, zq_af, zq_ag, ↓zq_ah, ↓zq_ai, ↓zq_aj, zq_ak, ↓zq_al, ↓zq_am, e_b1, e_b2, x_o1, x_o2, r_O0, q, km, w1, w2, w3, w4, w5, l1, ko, ks, kv, c1, k1]
    · have w5 : e_w x4 = x4 := a_w_id (by omega) (by omega)
      have k1 := k _ rfl
      rw [if_neg c1, Int.add_zero] at k1
      rw [E_V_eq]
      show e_tv E_C (E_V 199) e_t199_6 [192, p, yy, c, x4, x5] M = _
      unfold e_t199_6
      simp [zq_a, zq_b, zq_c, zq_d, zq_e, zq_f, zq_g, zq_h, zq_i, zq_j, zq_k, zq_l, zq_m, zq_n, zq_o, zq_p, zq_q, zq_r, zq_s, zq_t, zq_u, zq_v, zq_w, zq_x, zq_y, zq_z, zq_A, zq_B, zq_C, zq_D, zq_E, zq_F, zq_G, zq_H, zq_I, zq_J, zq_K, zq_L, ↓zq_M, ↓zq_N, ↓zq_O, ↓zq_P, ↓zq_Q, ↓zq_R, zq_S, zq_T, zq_U, zq_V, zq_W, zq_X, zq_Y, zq_Z, zq_0, zq_1, zq_2, zq_3, zq_4, zq_5, ↓zq_6, ↓zq_7, ↓zq_8, ↓zq_9, ↓zq_aa, zq_ab, zq_ac, zq_ad, zq_ae, zq_af, zq_ag, ↓zq_ah, ↓zq_ai, ↓zq_aj, zq_ak, ↓zq_al, ↓zq_am, e_b1, e_b2, x_o1, x_o2, r_O0, q, km, w1, w2, w3, w4, w5, l1, c1, k1]
theorem rx_low_loop {p c : Int} {n gr : Nat} (hm : rx_md M SH WM DI) (hv : hd_cvs (r_G M)) (hp : 0 ≤ p ∧ p < 40) (hp1 : p ≤ r_G M 1198) (hn : r_G M (28 * p + 2) = n) (hn8 : n ≤ 8) (hg : r_G M (28 * p + 19) = gr) (hg8 : gr ≤ 8) (hc : 0 ≤ c ∧ c ≤ 2000) (hk : ∀ k, 0 ≤ k → k < r_G M (28 * p + 2) → r_cl (r_G M) p (r_G M (28 * p + 3 + k))) : ∀ (d m : Nat) (x3 x4 x5 : Int), x4 = m → m + d = gr → x3 = cu_R (fun k => r_G M (28 * p + 11 + (k : Int))) (fun k => cu_v (r_G M) SH WM (r_G M (28 * p + 3 + (k : Int))) c) (DI p) n m → E_V 201 25 [192, p, c, x3, x4, x5] M = some (cu_R (fun k => r_G M (28 * p + 11 + (k : Int))) (fun k => cu_v (r_G M) SH WM (r_G M (28 * p + 3 + (k : Int))) c) (DI p) n gr, M) := by
  have w1 : e_w (28 * p) = 28 * p := a_w_id (by omega) (by omega)
  have w2 : e_w (28 * p + 19) = 28 * p + 19 := a_w_id (by omega) (by omega)
  have l1 : e_op 60 [193, 28 * p + 19] M = some (r_G M (28 * p + 19)) := r_rd (by omega) (by omega)
  have hvb : ∀ k : Nat, k < n → -60 ≤ cu_v (r_G M) SH WM (r_G M (28 * p + 3 + (k : Int))) c ∧ cu_v (r_G M) SH WM (r_G M (28 * p + 3 + (k : Int))) c ≤ 60 := fun k hk' => by
    have := (rx_vb (c := c) hm hv (show p ≤ 40 by omega) hp1 (hk (k : Int) (by omega) (by omega)) hc.1).1
    omega
  intro d
  induction d with
  | zero =>
    intro m x3 x4 x5 hx hi h3
    have e : m = gr := by omega
    subst e
    rw [← h3]
    have q : ¬ (x4 < r_G M (28 * p + 19)) := by omega
    rw [E_V_eq]
    show e_tv E_C (E_V 201) e_t201_25 [192, p, c, x3, x4, x5] M = _
    unfold e_t201_25
    simp [zq_a, zq_b, zq_c, zq_d, zq_e, zq_f, zq_g, zq_h, zq_i, zq_j, zq_k, zq_l, zq_m, zq_n, zq_o, zq_p, zq_q, zq_r, zq_s, zq_t, zq_u, zq_v, zq_w, zq_x, zq_y, zq_z, zq_A, zq_B, zq_C, zq_D, zq_E, zq_F, zq_G, zq_H, zq_I, zq_J, zq_K, zq_L, ↓zq_M, ↓zq_N, ↓zq_O, ↓zq_P, ↓zq_Q, ↓zq_R, zq_S, zq_T, zq_U, zq_V, zq_W, zq_X, zq_Y, zq_Z, zq_0, zq_1, zq_2, zq_3, zq_4, zq_5, ↓zq_6, ↓zq_7, ↓zq_8, ↓zq_9, ↓zq_aa, zq_ab, zq_ac, zq_ad, zq_ae, zq_af, zq_ag, ↓zq_ah, ↓zq_ai, ↓zq_aj, zq_ak, ↓zq_al, ↓zq_am, e_b1, e_b2, x_o1, x_o2, r_O0, w1, w2, l1, q]
  | succ d ih =>
    intro m x3 x4 x5 hx hi h3
    have q : x4 < r_G M (28 * p + 19) := by omega
    have w4 : e_w (x4 + 1) = x4 + 1 := a_w_id (by omega) (by omega)
    have ku : E_C 199 [192, p, x4, c] M = some (cu_gs (fun k => r_G M (28 * p + 11 + (k : Int))) (fun k => cu_v (r_G M) SH WM (r_G M (28 * p + 3 + (k : Int))) c) m n, M) := by
      rw [hx]
      have k := rx_group (y := m) hm hv hp hp1 hn hn8 hc hk n 0 0 0 rfl (by omega) rfl
      obtain ⟨yy, hyy⟩ : ∃ yy : Int, (m : Int) = yy := ⟨_, rfl⟩
      rw [hyy] at k ⊢
      rw [r_ent (show e_rok 199 [192, p, yy, c] = true from decide_eq_true r_ref)]
      show e_tv E_C (E_V 199) e_t199_0 [192, p, yy, c, 0, 0] M = _
      unfold e_t199_0
      simp [zq_a, zq_b, zq_c, zq_d, zq_e, zq_f, zq_g, zq_h, zq_i, zq_j, zq_k, zq_l, zq_m, zq_n, zq_o, zq_p, zq_q, zq_r, zq_s, zq_t, zq_u, zq_v, zq_w, zq_x, zq_y, zq_z, zq_A, zq_B, zq_C, zq_D, zq_E, zq_F, zq_G, zq_H, zq_I, zq_J, zq_K, zq_L, ↓zq_M, ↓zq_N, ↓zq_O, ↓zq_P, ↓zq_Q, ↓zq_R, zq_S, zq_T, zq_U, zq_V, zq_W, zq_X, zq_Y, zq_Z, zq_0, zq_1, zq_2, zq_3, zq_4, zq_5, ↓zq_6, ↓zq_7, ↓zq_8, ↓zq_9, ↓zq_aa, zq_ab, zq_ac, zq_ad, zq_ae, zq_af, zq_ag, ↓zq_ah, ↓zq_ai, ↓zq_aj, zq_ak, ↓zq_al, ↓zq_am, e_b1, e_b2, x_o1, x_o2, k]
    obtain ⟨kd0, hd⟩ := hm.2 p m hp.1 hp.2 (by omega)
    have kd : E_C 200 [192, p, x4] M = some (DI p m, M) := by rw [hx]; exact kd0
    have gb := cu_gs_bd (G := fun k : Nat => r_G M (28 * p + 11 + (k : Int))) (v := fun k : Nat => cu_v (r_G M) SH WM (r_G M (28 * p + 3 + (k : Int))) c) (y := m) (b := 60) (by decide) n hvb
    have rb := cu_R_bd (G := fun k : Nat => r_G M (28 * p + 11 + (k : Int))) (v := fun k : Nat => cu_v (r_G M) SH WM (r_G M (28 * p + 3 + (k : Int))) c) (D := DI p) hn8 hvb m
    have es : cu_R (fun k => r_G M (28 * p + 11 + (k : Int))) (fun k => cu_v (r_G M) SH WM (r_G M (28 * p + 3 + (k : Int))) c) (DI p) n (m + 1) = x3 + cu_cl (DI p m) (cu_gs (fun k => r_G M (28 * p + 11 + (k : Int))) (fun k => cu_v (r_G M) SH WM (r_G M (28 * p + 3 + (k : Int))) c) m n) := by
      rw [h3]
      rfl
    have k := fun x3' x5' e => ih (m + 1) x3' (x4 + 1) x5' (by omega) (by omega) e
    rw [es] at k
    rw [← h3] at rb
    clear es ih h3 kd0 hvb
    revert ku gb k
    generalize cu_gs (fun k => r_G M (28 * p + 11 + (k : Int))) (fun k => cu_v (r_G M) SH WM (r_G M (28 * p + 3 + (k : Int))) c) m n = u
    generalize cu_R (fun k => r_G M (28 * p + 11 + (k : Int))) (fun k => cu_v (r_G M) SH WM (r_G M (28 * p + 3 + (k : Int))) c) (DI p) n gr = z
    revert kd hd
    generalize DI p m = dd
    intro hd kd ku gb k
    have gb1 : -480 ≤ u ∧ u ≤ 480 := by omega
    have rb1 : -3840 ≤ x3 ∧ x3 ≤ 3840 := by omega
    by_cases c1 : dd = 0
    · have w5 : e_w (x3 + u) = x3 + u := a_w_id (by omega) (by omega)
      have k1 := k (x3 + u) u (by unfold cu_cl; rw [if_neg (fun e => e.1 c1)])
      subst c1
      rw [E_V_eq]
      show e_tv E_C (E_V 201) e_t201_25 [192, p, c, x3, x4, x5] M = _
      unfold e_t201_25
      simp [zq_a, zq_b, zq_c, zq_d, zq_e, zq_f, zq_g, zq_h, zq_i, zq_j, zq_k, zq_l, zq_m, zq_n, zq_o, zq_p, zq_q, zq_r, zq_s, zq_t, zq_u, zq_v, zq_w, zq_x, zq_y, zq_z, zq_A, zq_B, zq_C, zq_D, zq_E, zq_F, zq_G, zq_H, zq_I, zq_J, zq_K, zq_L, ↓zq_M, ↓zq_N, ↓zq_O, ↓zq_P, ↓zq_Q, ↓zq_R, zq_S, zq_T, zq_U, zq_V, zq_W, zq_X, zq_Y, zq_Z, zq_0, zq_1, zq_2, zq_3, zq_4, zq_5, ↓zq_6, ↓zq_7, ↓zq_8, ↓zq_9, ↓zq_aa, zq_ab, zq_ac, zq_ad, zq_ae, zq_af, zq_ag, ↓zq_ah, ↓zq_ai, ↓zq_aj, zq_ak, ↓zq_al, ↓zq_am, e_b1, e_b2, x_o1, x_o2, r_O0, q, w1, w2, w4, w5, l1, ku, kd, k1]
    · rcases x_lt u (-1) with ⟨c2, c2_n⟩ | ⟨c2, c2_n⟩
      · have w5 : e_w (x3 + -1) = x3 + -1 := a_w_id (by omega) (by omega)
        have k1 := k (x3 + -1) u (by unfold cu_cl; rw [if_pos ⟨c1, c2⟩])
        rw [E_V_eq]
        show e_tv E_C (E_V 201) e_t201_25 [192, p, c, x3, x4, x5] M = _
        unfold e_t201_25
        simp [zq_a, zq_b, zq_c, zq_d, zq_e, zq_f, zq_g, zq_h, zq_i, zq_j, zq_k, zq_l, zq_m, zq_n, zq_o, zq_p, zq_q, zq_r, zq_s, zq_t, zq_u, zq_v, zq_w, zq_x, zq_y, zq_z, zq_A, zq_B, zq_C, zq_D, zq_E, zq_F, zq_G, zq_H, zq_I, zq_J, zq_K, zq_L, ↓zq_M, ↓zq_N, ↓zq_O, ↓zq_P, ↓zq_Q, ↓zq_R, zq_S, zq_T, zq_U, zq_V, zq_W, zq_X, zq_Y, zq_Z, zq_0, zq_1, zq_2, zq_3, zq_4, zq_5, ↓zq_6, ↓zq_7, ↓zq_8, ↓zq_9, ↓zq_aa, zq_ab, zq_ac, zq_ad, zq_ae, zq_af, zq_ag, ↓zq_ah, ↓zq_ai, ↓zq_aj, zq_ak, ↓zq_al, ↓zq_am, e_b1, e_b2, x_o1, x_o2, r_O0, q, w1, w2, w4, w5, l1, ku, kd, c1, c2, c2_n, k1]
      · have w5 : e_w (x3 + u) = x3 + u := a_w_id (by omega) (by omega)
        have k1 := k (x3 + u) u (by unfold cu_cl; rw [if_neg (fun e => c2 e.2)])
        rw [E_V_eq]
        show e_tv E_C (E_V 201) e_t201_25 [192, p, c, x3, x4, x5] M = _
        unfold e_t201_25
        simp [zq_a, zq_b, zq_c, zq_d, zq_e, zq_f, zq_g, zq_h, zq_i, zq_j, zq_k, zq_l, zq_m, zq_n, zq_o, zq_p, zq_q, zq_r, zq_s, zq_t, zq_u, zq_v, zq_w, zq_x, zq_y, zq_z, zq_A, zq_B, zq_C, zq_D, zq_E, zq_F, zq_G, zq_H, zq_I, zq_J, zq_K, zq_L, ↓zq_M, ↓zq_N, ↓zq_O, ↓zq_P, ↓zq_Q, ↓zq_R, zq_S, zq_T, zq_U, zq_V, zq_W, zq_X, zq_Y, zq_Z, zq_0, zq_1, zq_2, zq_3, zq_4, zq_5, ↓zq_6, ↓zq_7, ↓zq_8, ↓zq_9, ↓zq_aa, zq_ab, zq_ac, zq_ad, zq_ae, zq_af, zq_ag, ↓zq_ah, ↓zq_ai, ↓zq_aj, zq_ak, ↓zq_al, ↓zq_am, e_b1, e_b2, x_o1, x_o2, r_O0, q, w1, w2, w4, w5, l1, ku, kd, c1, c2, c2_n, k1]
theorem rx_low {b p c : Int} (hm : rx_md M SH WM DI) (hv : hd_cvs (r_G M)) (hb : b ≤ 40) (hb1 : b ≤ r_G M 1198) (hp : r_cl (r_G M) b p ∨ r_rw (r_G M) b p) (hc : 0 ≤ c ∧ c ≤ 2000) : E_C 201 [192, p, c] M = some (cu_low (r_G M) SH WM DI p c, M) := by
  have h40 := r_lo_p hb hp
  have kk : E_C 170 [192, p] M = some (r_G M (28 * p), M) := r_kind h40
  unfold cu_low
  rcases hp with hp | hp
  · obtain ⟨⟨ks, s1, s2⟩, -⟩ := hm.1 b p hb hb1 hp
    have kv := rx_cell (c := c) hm hb hb1 hp (hv _ hp.1 (by have := hp.2.1; omega) hp.2.2.1) hc
    have a3 := hp.2.2.1
    rw [if_pos a3]
    rw [r_ent (show e_rok 201 [192, p, c] = true from decide_eq_true r_ref)]
    show e_tv E_C (E_V 201) e_t201_0 [192, p, c, 0, 0, 0] M = _
    unfold e_t201_0
    simp [zq_a, zq_b, zq_c, zq_d, zq_e, zq_f, zq_g, zq_h, zq_i, zq_j, zq_k, zq_l, zq_m, zq_n, zq_o, zq_p, zq_q, zq_r, zq_s, zq_t, zq_u, zq_v, zq_w, zq_x, zq_y, zq_z, zq_A, zq_B, zq_C, zq_D, zq_E, zq_F, zq_G, zq_H, zq_I, zq_J, zq_K, zq_L, ↓zq_M, ↓zq_N, ↓zq_O, ↓zq_P, ↓zq_Q, ↓zq_R, zq_S, zq_T, zq_U, zq_V, zq_W, zq_X, zq_Y, zq_Z, zq_0, zq_1, zq_2, zq_3, zq_4, zq_5, ↓zq_6, ↓zq_7, ↓zq_8, ↓zq_9, ↓zq_aa, zq_ab, zq_ac, zq_ad, zq_ae, zq_af, zq_ag, ↓zq_ah, ↓zq_ai, ↓zq_aj, zq_ak, ↓zq_al, ↓zq_am, e_b1, e_b2, x_o1, x_o2, kk, a3, ks, kv]
  · obtain ⟨a1, a2, a3, a4, a5, a6, a7, a8⟩ := hp
    obtain ⟨n, hn⟩ : ∃ n : Nat, r_G M (28 * p + 2) = n := ⟨(r_G M (28 * p + 2)).toNat, by omega⟩
    obtain ⟨gr, hg⟩ : ∃ gr : Nat, r_G M (28 * p + 19) = gr := ⟨(r_G M (28 * p + 19)).toNat, by omega⟩
    have k := rx_low_loop (c := c) hm hv h40 (by omega) hn (by omega) hg (by omega) hc a8 gr 0 0 0 0 rfl (by omega) rfl
    rw [if_neg (by omega), hn, hg, Int.toNat_natCast, Int.toNat_natCast]
    rw [r_ent (show e_rok 201 [192, p, c] = true from decide_eq_true r_ref)]
    show e_tv E_C (E_V 201) e_t201_0 [192, p, c, 0, 0, 0] M = _
    unfold e_t201_0
    simp [zq_a, zq_b, zq_c, zq_d, zq_e, zq_f, zq_g, zq_h, zq_i, zq_j, zq_k, zq_l, zq_m, zq_n, zq_o, zq_p, zq_q, zq_r, zq_s, zq_t, zq_u, zq_v, zq_w, zq_x, zq_y, zq_z, zq_A, zq_B, zq_C, zq_D, zq_E, zq_F, zq_G, zq_H, zq_I, zq_J, zq_K, zq_L, ↓zq_M, ↓zq_N, ↓zq_O, ↓zq_P, ↓zq_Q, ↓zq_R, zq_S, zq_T, zq_U, zq_V, zq_W, zq_X, zq_Y, zq_Z, zq_0, zq_1, zq_2, zq_3, zq_4, zq_5, ↓zq_6, ↓zq_7, ↓zq_8, ↓zq_9, ↓zq_aa, zq_ab, zq_ac, zq_ad, zq_ae, zq_af, zq_ag, ↓zq_ah, ↓zq_ai, ↓zq_aj, zq_ak, ↓zq_al, ↓zq_am, e_b1, e_b2, x_o1, x_o2, kk, a3, k]

theorem rx_cu_dn_202 {b p u : Int} (hm : rx_md M SH WM DI) (hv : hd_cvs (r_G M)) (hb : b ≤ 40) (hb1 : b ≤ r_G M 1198) (hp : r_cl (r_G M) b p ∨ r_rw (r_G M) b p) : ∀ (t : Nat) (x3 x4 : Int), x3 = t → t ≤ 99 → E_V 202 71 [192, p, u, x3, x4] M = some ((cu_cu (fun c : Nat => cu_low (r_G M) SH WM DI p (c : Int)) u t : Int), M) := by
  intro t
  induction t with
  | zero =>
    intro x3 x4 hx _
    have hx0 : x3 = 0 := hx
    subst hx0
    rw [E_V_eq]
    show e_tv E_C (E_V 202) e_t202_71 [192, p, u, 0, x4] M = _
    unfold e_t202_71
    simp [zq_a, zq_b, zq_c, zq_d, zq_e, zq_f, zq_g, zq_h, zq_i, zq_j, zq_k, zq_l, zq_m, zq_n, zq_o, zq_p, zq_q, zq_r, zq_s, zq_t, zq_u, zq_v, zq_w, zq_x, zq_y, zq_z, zq_A, zq_B, zq_C, zq_D, zq_E, zq_F, zq_G, zq_H, zq_I, zq_J, zq_K, zq_L, ↓zq_M, ↓zq_N, ↓zq_O, ↓zq_P, ↓zq_Q, ↓zq_R, zq_S, zq_T, zq_U, zq_V, zq_W, zq_X, zq_Y, zq_Z, zq_0, zq_1, zq_2, zq_3, zq_4, zq_5, ↓zq_6, ↓zq_7, ↓zq_8, ↓zq_9, ↓zq_aa, zq_ab, zq_ac, zq_ad, zq_ae, zq_af, zq_ag, ↓zq_ah, ↓zq_ai, ↓zq_aj, zq_ak, ↓zq_al, ↓zq_am, e_b1, e_b2, x_o1, x_o2, cu_cu]
  | succ t ih =>
    intro x3 x4 hx ht
    have kl : E_C 201 [192, p, x3] M = some (cu_low (r_G M) SH WM DI p ((t + 1 : Nat) : Int), M) := by
      rw [hx]
      exact rx_low hm hv hb hb1 hp ⟨by omega, by omega⟩
    have q : 0 < x3 := by omega
    have w4 : e_w (x3 + -1) = x3 - 1 := (a_w_id (by omega) (by omega)).trans (by omega)
    have k := ih (x3 - 1) x4 (by omega) (by omega)
    have e : cu_cu (fun c : Nat => cu_low (r_G M) SH WM DI p (c : Int)) u (t + 1) = if cu_low (r_G M) SH WM DI p ((t + 1 : Nat) : Int) < u then cu_cu (fun c : Nat => cu_low (r_G M) SH WM DI p (c : Int)) u t else t + 1 := rfl
    rw [e]
    clear e ih
    revert kl k
    generalize cu_cu (fun c : Nat => cu_low (r_G M) SH WM DI p (c : Int)) u t = z
    generalize cu_low (r_G M) SH WM DI p ((t + 1 : Nat) : Int) = l
    intro kl k
    rcases x_lt l u with ⟨c1, c1_n⟩ | ⟨c1, c1_n⟩
    · rw [if_pos c1]
      rw [E_V_eq]
      show e_tv E_C (E_V 202) e_t202_71 [192, p, u, x3, x4] M = _
      unfold e_t202_71
      simp [zq_a, zq_b, zq_c, zq_d, zq_e, zq_f, zq_g, zq_h, zq_i, zq_j, zq_k, zq_l, zq_m, zq_n, zq_o, zq_p, zq_q, zq_r, zq_s, zq_t, zq_u, zq_v, zq_w, zq_x, zq_y, zq_z, zq_A, zq_B, zq_C, zq_D, zq_E, zq_F, zq_G, zq_H, zq_I, zq_J, zq_K, zq_L, ↓zq_M, ↓zq_N, ↓zq_O, ↓zq_P, ↓zq_Q, ↓zq_R, zq_S, zq_T, zq_U, zq_V, zq_W, zq_X, zq_Y, zq_Z, zq_0, zq_1, zq_2, zq_3, zq_4, zq_5, ↓zq_6, ↓zq_7, ↓zq_8, ↓zq_9, ↓zq_aa, zq_ab, zq_ac, zq_ad, zq_ae, zq_af, zq_ag, ↓zq_ah, ↓zq_ai, ↓zq_aj, zq_ak, ↓zq_al, ↓zq_am, e_b1, e_b2, x_o1, x_o2, q, kl, c1, c1_n, w4, k]
    · rw [if_neg c1, ← hx]
      rw [E_V_eq]
      show e_tv E_C (E_V 202) e_t202_71 [192, p, u, x3, x4] M = _
      unfold e_t202_71
      simp [zq_a, zq_b, zq_c, zq_d, zq_e, zq_f, zq_g, zq_h, zq_i, zq_j, zq_k, zq_l, zq_m, zq_n, zq_o, zq_p, zq_q, zq_r, zq_s, zq_t, zq_u, zq_v, zq_w, zq_x, zq_y, zq_z, zq_A, zq_B, zq_C, zq_D, zq_E, zq_F, zq_G, zq_H, zq_I, zq_J, zq_K, zq_L, ↓zq_M, ↓zq_N, ↓zq_O, ↓zq_P, ↓zq_Q, ↓zq_R, zq_S, zq_T, zq_U, zq_V, zq_W, zq_X, zq_Y, zq_Z, zq_0, zq_1, zq_2, zq_3, zq_4, zq_5, ↓zq_6, ↓zq_7, ↓zq_8, ↓zq_9, ↓zq_aa, zq_ab, zq_ac, zq_ad, zq_ae, zq_af, zq_ag, ↓zq_ah, ↓zq_ai, ↓zq_aj, zq_ak, ↓zq_al, ↓zq_am, e_b1, e_b2, x_o1, x_o2, q, kl, c1, c1_n]
theorem rx_cu_lo_202 {b p u : Int} (hm : rx_md M SH WM DI) (hv : hd_cvs (r_G M)) (hb : b ≤ 40) (hb1 : b ≤ r_G M 1198) (hp : r_cl (r_G M) b p ∨ r_rw (r_G M) b p) : E_C 202 [192, p, u] M = some ((cu_cu (fun c : Nat => cu_low (r_G M) SH WM DI p (c : Int)) u 99 : Int), M) := by
  have h40 := r_lo_p hb hp
  have kk : E_C 170 [192, p] M = some (r_G M (28 * p), M) := r_kind h40
  have k := rx_cu_dn_202 (u := u) hm hv hb hb1 hp 99 99 0 rfl (Nat.le_refl _)
  rcases hp with hp | hp
  · have a3 := hp.2.2.1
    rw [r_ent (show e_rok 202 [192, p, u] = true from decide_eq_true r_ref)]
    show e_tv E_C (E_V 202) e_t202_0 [192, p, u, 0, 0] M = _
    unfold e_t202_0
    simp [zq_a, zq_b, zq_c, zq_d, zq_e, zq_f, zq_g, zq_h, zq_i, zq_j, zq_k, zq_l, zq_m, zq_n, zq_o, zq_p, zq_q, zq_r, zq_s, zq_t, zq_u, zq_v, zq_w, zq_x, zq_y, zq_z, zq_A, zq_B, zq_C, zq_D, zq_E, zq_F, zq_G, zq_H, zq_I, zq_J, zq_K, zq_L, ↓zq_M, ↓zq_N, ↓zq_O, ↓zq_P, ↓zq_Q, ↓zq_R, zq_S, zq_T, zq_U, zq_V, zq_W, zq_X, zq_Y, zq_Z, zq_0, zq_1, zq_2, zq_3, zq_4, zq_5, ↓zq_6, ↓zq_7, ↓zq_8, ↓zq_9, ↓zq_aa, zq_ab, zq_ac, zq_ad, zq_ae, zq_af, zq_ag, ↓zq_ah, ↓zq_ai, ↓zq_aj, zq_ak, ↓zq_al, ↓zq_am, e_b1, e_b2, x_o1, x_o2, kk, a3, k]
  · have a3 := hp.2.2.1
    rw [r_ent (show e_rok 202 [192, p, u] = true from decide_eq_true r_ref)]
    show e_tv E_C (E_V 202) e_t202_0 [192, p, u, 0, 0] M = _
    unfold e_t202_0
    simp [zq_a, zq_b, zq_c, zq_d, zq_e, zq_f, zq_g, zq_h, zq_i, zq_j, zq_k, zq_l, zq_m, zq_n, zq_o, zq_p, zq_q, zq_r, zq_s, zq_t, zq_u, zq_v, zq_w, zq_x, zq_y, zq_z, zq_A, zq_B, zq_C, zq_D, zq_E, zq_F, zq_G, zq_H, zq_I, zq_J, zq_K, zq_L, ↓zq_M, ↓zq_N, ↓zq_O, ↓zq_P, ↓zq_Q, ↓zq_R, zq_S, zq_T, zq_U, zq_V, zq_W, zq_X, zq_Y, zq_Z, zq_0, zq_1, zq_2, zq_3, zq_4, zq_5, ↓zq_6, ↓zq_7, ↓zq_8, ↓zq_9, ↓zq_aa, zq_ab, zq_ac, zq_ad, zq_ae, zq_af, zq_ag, ↓zq_ah, ↓zq_ai, ↓zq_aj, zq_ak, ↓zq_al, ↓zq_am, e_b1, e_b2, x_o1, x_o2, kk, a3, k]
theorem rx_cu_dn_306 {b p u : Int} (hm : rx_md M SH WM DI) (hv : hd_cvs (r_G M)) (hb : b ≤ 40) (hb1 : b ≤ r_G M 1198) (hp : r_cl (r_G M) b p ∨ r_rw (r_G M) b p) : ∀ (t : Nat) (x3 x4 : Int), x3 = t → t ≤ 99 → E_V 306 71 [192, p, u, x3, x4] M = some ((cu_cu (fun c : Nat => cu_low (r_G M) SH WM DI p (c : Int)) u t : Int), M) := by
  intro t
  induction t with
  | zero =>
    intro x3 x4 hx _
    have hx0 : x3 = 0 := hx
    subst hx0
    rw [E_V_eq]
    show e_tv E_C (E_V 306) e_t306_71 [192, p, u, 0, x4] M = _
    unfold e_t306_71
    simp [zq_a, zq_b, zq_c, zq_d, zq_e, zq_f, zq_g, zq_h, zq_i, zq_j, zq_k, zq_l, zq_m, zq_n, zq_o, zq_p, zq_q, zq_r, zq_s, zq_t, zq_u, zq_v, zq_w, zq_x, zq_y, zq_z, zq_A, zq_B, zq_C, zq_D, zq_E, zq_F, zq_G, zq_H, zq_I, zq_J, zq_K, zq_L, ↓zq_M, ↓zq_N, ↓zq_O, ↓zq_P, ↓zq_Q, ↓zq_R, zq_S, zq_T, zq_U, zq_V, zq_W, zq_X, zq_Y, zq_Z, zq_0, zq_1, zq_2, zq_3, zq_4, zq_5, ↓zq_6, ↓zq_7, ↓zq_8, ↓zq_9, ↓zq_aa, zq_ab, zq_ac, zq_ad, zq_ae, zq_af, zq_ag, ↓zq_ah, ↓zq_ai, ↓zq_aj, zq_ak, ↓zq_al, ↓zq_am, e_b1, e_b2, x_o1, x_o2, cu_cu]
  | succ t ih =>
    intro x3 x4 hx ht
    have kl : E_C 201 [192, p, x3] M = some (cu_low (r_G M) SH WM DI p ((t + 1 : Nat) : Int), M) := by
      rw [hx]
      exact rx_low hm hv hb hb1 hp ⟨by omega, by omega⟩
    have q : 0 < x3 := by omega
    have w4 : e_w (x3 + -1) = x3 - 1 := (a_w_id (by omega) (by omega)).trans (by omega)
    have k := ih (x3 - 1) x4 (by omega) (by omega)
    have e : cu_cu (fun c : Nat => cu_low (r_G M) SH WM DI p (c : Int)) u (t + 1) = if cu_low (r_G M) SH WM DI p ((t + 1 : Nat) : Int) < u then cu_cu (fun c : Nat => cu_low (r_G M) SH WM DI p (c : Int)) u t else t + 1 := rfl
    rw [e]
    clear e ih
    revert kl k
    generalize cu_cu (fun c : Nat => cu_low (r_G M) SH WM DI p (c : Int)) u t = z
    generalize cu_low (r_G M) SH WM DI p ((t + 1 : Nat) : Int) = l
    intro kl k
    rcases x_lt l u with ⟨c1, c1_n⟩ | ⟨c1, c1_n⟩
    · rw [if_pos c1]
      rw [E_V_eq]
      show e_tv E_C (E_V 306) e_t306_71 [192, p, u, x3, x4] M = _
      unfold e_t306_71
      simp [zq_a, zq_b, zq_c, zq_d, zq_e, zq_f, zq_g, zq_h, zq_i, zq_j, zq_k, zq_l, zq_m, zq_n, zq_o, zq_p, zq_q, zq_r, zq_s, zq_t, zq_u, zq_v, zq_w, zq_x, zq_y, zq_z, zq_A, zq_B, zq_C, zq_D, zq_E, zq_F, zq_G, zq_H, zq_I, zq_J, zq_K, zq_L, ↓zq_M, ↓zq_N, ↓zq_O, ↓zq_P, ↓zq_Q, ↓zq_R, zq_S, zq_T, zq_U, zq_V, zq_W, zq_X, zq_Y, zq_Z, zq_0, zq_1, zq_2, zq_3, zq_4, zq_5, ↓zq_6, ↓zq_7, ↓zq_8, ↓zq_9, ↓zq_aa, zq_ab, zq_ac, zq_ad, zq_ae, zq_af, zq_ag, ↓zq_ah, ↓zq_ai, ↓zq_aj, zq_ak, ↓zq_al, ↓zq_am, e_b1, e_b2, x_o1, x_o2, q, kl, c1, c1_n, w4, k]
    · rw [if_neg c1, ← hx]
      rw [E_V_eq]
      show e_tv E_C (E_V 306) e_t306_71 [192, p, u, x3, x4] M = _
      unfold e_t306_71
      simp [zq_a, zq_b, zq_c, zq_d, zq_e, zq_f, zq_g, zq_h, zq_i, zq_j, zq_k, zq_l, zq_m, zq_n, zq_o, zq_p, zq_q, zq_r, zq_s, zq_t, zq_u, zq_v, zq_w, zq_x, zq_y, zq_z, zq_A, zq_B, zq_C, zq_D, zq_E, zq_F, zq_G, zq_H, zq_I, zq_J, zq_K, zq_L, ↓zq_M, ↓zq_N, ↓zq_O, ↓zq_P, ↓zq_Q, ↓zq_R, zq_S, zq_T, zq_U, zq_V, zq_W, zq_X, zq_Y, zq_Z, zq_0, zq_1, zq_2, zq_3, zq_4, zq_5, ↓zq_6, ↓zq_7, ↓zq_8, ↓zq_9, ↓zq_aa, zq_ab, zq_ac, zq_ad, zq_ae, zq_af, zq_ag, ↓zq_ah, ↓zq_ai, ↓zq_aj, zq_ak, ↓zq_al, ↓zq_am, e_b1, e_b2, x_o1, x_o2, q, kl, c1, c1_n]
theorem rx_cu_lo_306 {b p u : Int} (hm : rx_md M SH WM DI) (hv : hd_cvs (r_G M)) (hb : b ≤ 40) (hb1 : b ≤ r_G M 1198) (hp : r_cl (r_G M) b p ∨ r_rw (r_G M) b p) : E_C 306 [192, p, u] M = some ((cu_cu (fun c : Nat => cu_low (r_G M) SH WM DI p (c : Int)) u 99 : Int), M) := by
  have h40 := r_lo_p hb hp
  have kk : E_C 170 [192, p] M = some (r_G M (28 * p), M) := r_kind h40
  have k := rx_cu_dn_306 (u := u) hm hv hb hb1 hp 99 99 0 rfl (Nat.le_refl _)
  rcases hp with hp | hp
  · have a3 := hp.2.2.1
    rw [r_ent (show e_rok 306 [192, p, u] = true from decide_eq_true r_ref)]
    show e_tv E_C (E_V 306) e_t306_0 [192, p, u, 0, 0] M = _
    unfold e_t306_0
    simp [zq_a, zq_b, zq_c, zq_d, zq_e, zq_f, zq_g, zq_h, zq_i, zq_j, zq_k, zq_l, zq_m, zq_n, zq_o, zq_p, zq_q, zq_r, zq_s, zq_t, zq_u, zq_v, zq_w, zq_x, zq_y, zq_z, zq_A, zq_B, zq_C, zq_D, zq_E, zq_F, zq_G, zq_H, zq_I, zq_J, zq_K, zq_L, ↓zq_M, ↓zq_N, ↓zq_O, ↓zq_P, ↓zq_Q, ↓zq_R, zq_S, zq_T, zq_U, zq_V, zq_W, zq_X, zq_Y, zq_Z, zq_0, zq_1, zq_2, zq_3, zq_4, zq_5, ↓zq_6, ↓zq_7, ↓zq_8, ↓zq_9, ↓zq_aa, zq_ab, zq_ac, zq_ad, zq_ae, zq_af, zq_ag, ↓zq_ah, ↓zq_ai, ↓zq_aj, zq_ak, ↓zq_al, ↓zq_am, e_b1, e_b2, x_o1, x_o2, kk, a3, k]
  · have a3 := hp.2.2.1
    rw [r_ent (show e_rok 306 [192, p, u] = true from decide_eq_true r_ref)]
    show e_tv E_C (E_V 306) e_t306_0 [192, p, u, 0, 0] M = _
    unfold e_t306_0
    simp [zq_a, zq_b, zq_c, zq_d, zq_e, zq_f, zq_g, zq_h, zq_i, zq_j, zq_k, zq_l, zq_m, zq_n, zq_o, zq_p, zq_q, zq_r, zq_s, zq_t, zq_u, zq_v, zq_w, zq_x, zq_y, zq_z, zq_A, zq_B, zq_C, zq_D, zq_E, zq_F, zq_G, zq_H, zq_I, zq_J, zq_K, zq_L, ↓zq_M, ↓zq_N, ↓zq_O, ↓zq_P, ↓zq_Q, ↓zq_R, zq_S, zq_T, zq_U, zq_V, zq_W, zq_X, zq_Y, zq_Z, zq_0, zq_1, zq_2, zq_3, zq_4, zq_5, ↓zq_6, ↓zq_7, ↓zq_8, ↓zq_9, ↓zq_aa, zq_ab, zq_ac, zq_ad, zq_ae, zq_af, zq_ag, ↓zq_ah, ↓zq_ai, ↓zq_aj, zq_ak, ↓zq_al, ↓zq_am, e_b1, e_b2, x_o1, x_o2, kk, a3, k]
theorem rx_cu_dn_307 {b p u : Int} (hm : rx_md M SH WM DI) (hv : hd_cvs (r_G M)) (hb : b ≤ 40) (hb1 : b ≤ r_G M 1198) (hp : r_cl (r_G M) b p ∨ r_rw (r_G M) b p) : ∀ (t : Nat) (x3 x4 : Int), x3 = t → t ≤ 99 → E_V 307 71 [192, p, u, x3, x4] M = some ((cu_cu (fun c : Nat => cu_low (r_G M) SH WM DI p (c : Int)) u t : Int), M) := by
  intro t
  induction t with
  | zero =>
    intro x3 x4 hx _
    have hx0 : x3 = 0 := hx
    subst hx0
    rw [E_V_eq]
    show e_tv E_C (E_V 307) e_t307_71 [192, p, u, 0, x4] M = _
    unfold e_t307_71
    simp [zq_a, zq_b, zq_c, zq_d, zq_e, zq_f, zq_g, zq_h, zq_i, zq_j, zq_k, zq_l, zq_m, zq_n, zq_o, zq_p, zq_q, zq_r, zq_s, zq_t, zq_u, zq_v, zq_w, zq_x, zq_y, zq_z, zq_A, zq_B, zq_C, zq_D, zq_E, zq_F, zq_G, zq_H, zq_I, zq_J, zq_K, zq_L, ↓zq_M, ↓zq_N, ↓zq_O, ↓zq_P, ↓zq_Q, ↓zq_R, zq_S, zq_T, zq_U, zq_V, zq_W, zq_X, zq_Y, zq_Z, zq_0, zq_1, zq_2, zq_3, zq_4, zq_5, ↓zq_6, ↓zq_7, ↓zq_8, ↓zq_9, ↓zq_aa, zq_ab, zq_ac, zq_ad, zq_ae, zq_af, zq_ag, ↓zq_ah, ↓zq_ai, ↓zq_aj, zq_ak, ↓zq_al, ↓zq_am, e_b1, e_b2, x_o1, x_o2, cu_cu]
  | succ t ih =>
    intro x3 x4 hx ht
    have kl : E_C 201 [192, p, x3] M = some (cu_low (r_G M) SH WM DI p ((t + 1 : Nat) : Int), M) := by
      rw [hx]
      exact rx_low hm hv hb hb1 hp ⟨by omega, by omega⟩
    have q : 0 < x3 := by omega
    have w4 : e_w (x3 + -1) = x3 - 1 := (a_w_id (by omega) (by omega)).trans (by omega)
    have k := ih (x3 - 1) x4 (by omega) (by omega)
    have e : cu_cu (fun c : Nat => cu_low (r_G M) SH WM DI p (c : Int)) u (t + 1) = if cu_low (r_G M) SH WM DI p ((t + 1 : Nat) : Int) < u then cu_cu (fun c : Nat => cu_low (r_G M) SH WM DI p (c : Int)) u t else t + 1 := rfl
    rw [e]
    clear e ih
    revert kl k
    generalize cu_cu (fun c : Nat => cu_low (r_G M) SH WM DI p (c : Int)) u t = z
    generalize cu_low (r_G M) SH WM DI p ((t + 1 : Nat) : Int) = l
    intro kl k
    rcases x_lt l u with ⟨c1, c1_n⟩ | ⟨c1, c1_n⟩
    · rw [if_pos c1]
      rw [E_V_eq]
      show e_tv E_C (E_V 307) e_t307_71 [192, p, u, x3, x4] M = _
      unfold e_t307_71
      simp [zq_a, zq_b, zq_c, zq_d, zq_e, zq_f, zq_g, zq_h, zq_i, zq_j, zq_k, zq_l, zq_m, zq_n, zq_o, zq_p, zq_q, zq_r, zq_s, zq_t, zq_u, zq_v, zq_w, zq_x, zq_y, zq_z, zq_A, zq_B, zq_C, zq_D, zq_E, zq_F, zq_G, zq_H, zq_I, zq_J, zq_K, zq_L, ↓zq_M, ↓zq_N, ↓zq_O, ↓zq_P, ↓zq_Q, ↓zq_R, zq_S, zq_T, zq_U, zq_V, zq_W, zq_X, zq_Y, zq_Z, zq_0, zq_1, zq_2, zq_3, zq_4, zq_5, ↓zq_6, ↓zq_7, ↓zq_8, ↓zq_9, ↓zq_aa, zq_ab, zq_ac, zq_ad, zq_ae, zq_af, zq_ag, ↓zq_ah, ↓zq_ai, ↓zq_aj, zq_ak, ↓zq_al, ↓zq_am, e_b1, e_b2, x_o1, x_o2, q, kl, c1, c1_n, w4, k]
    · rw [if_neg c1, ← hx]
      rw [E_V_eq]
      show e_tv E_C (E_V 307) e_t307_71 [192, p, u, x3, x4] M = _
      unfold e_t307_71
      simp [zq_a, zq_b, zq_c, zq_d, zq_e, zq_f, zq_g, zq_h, zq_i, zq_j, zq_k, zq_l, zq_m, zq_n, zq_o, zq_p, zq_q, zq_r, zq_s, zq_t, zq_u, zq_v, zq_w, zq_x, zq_y, zq_z, zq_A, zq_B, zq_C, zq_D, zq_E, zq_F, zq_G, zq_H, zq_I, zq_J, zq_K, zq_L, ↓zq_M, ↓zq_N, ↓zq_O, ↓zq_P, ↓zq_Q, ↓zq_R, zq_S, zq_T, zq_U, zq_V, zq_W, zq_X, zq_Y, zq_Z, zq_0, zq_1, zq_2, zq_3, zq_4, zq_5, ↓zq_6, ↓zq_7, ↓zq_8, ↓zq_9, ↓zq_aa, zq_ab, zq_ac, zq_ad, zq_ae, zq_af, zq_ag, ↓zq_ah, ↓zq_ai, ↓zq_aj, zq_ak, ↓zq_al, ↓zq_am, e_b1, e_b2, x_o1, x_o2, q, kl, c1, c1_n]
theorem rx_cu_lo_307 {b p u : Int} (hm : rx_md M SH WM DI) (hv : hd_cvs (r_G M)) (hb : b ≤ 40) (hb1 : b ≤ r_G M 1198) (hp : r_cl (r_G M) b p ∨ r_rw (r_G M) b p) : E_C 307 [192, p, u] M = some ((cu_cu (fun c : Nat => cu_low (r_G M) SH WM DI p (c : Int)) u 99 : Int), M) := by
  have h40 := r_lo_p hb hp
  have kk : E_C 170 [192, p] M = some (r_G M (28 * p), M) := r_kind h40
  have k := rx_cu_dn_307 (u := u) hm hv hb hb1 hp 99 99 0 rfl (Nat.le_refl _)
  rcases hp with hp | hp
  · have a3 := hp.2.2.1
    rw [r_ent (show e_rok 307 [192, p, u] = true from decide_eq_true r_ref)]
    show e_tv E_C (E_V 307) e_t307_0 [192, p, u, 0, 0] M = _
    unfold e_t307_0
    simp [zq_a, zq_b, zq_c, zq_d, zq_e, zq_f, zq_g, zq_h, zq_i, zq_j, zq_k, zq_l, zq_m, zq_n, zq_o, zq_p, zq_q, zq_r, zq_s, zq_t, zq_u, zq_v, zq_w, zq_x, zq_y, zq_z, zq_A, zq_B, zq_C, zq_D, zq_E, zq_F, zq_G, zq_H, zq_I, zq_J, zq_K, zq_L, ↓zq_M, ↓zq_N, ↓zq_O, ↓zq_P, ↓zq_Q, ↓zq_R, zq_S, zq_T, zq_U, zq_V, zq_W, zq_X, zq_Y, zq_Z, zq_0, zq_1, zq_2, zq_3, zq_4, zq_5, ↓zq_6, ↓zq_7, ↓zq_8, ↓zq_9, ↓zq_aa, zq_ab, zq_ac, zq_ad, zq_ae, zq_af, zq_ag, ↓zq_ah, ↓zq_ai, ↓zq_aj, zq_ak, ↓zq_al, ↓zq_am, e_b1, e_b2, x_o1, x_o2, kk, a3, k]
  · have a3 := hp.2.2.1
    rw [r_ent (show e_rok 307 [192, p, u] = true from decide_eq_true r_ref)]
    show e_tv E_C (E_V 307) e_t307_0 [192, p, u, 0, 0] M = _
    unfold e_t307_0
    simp [zq_a, zq_b, zq_c, zq_d, zq_e, zq_f, zq_g, zq_h, zq_i, zq_j, zq_k, zq_l, zq_m, zq_n, zq_o, zq_p, zq_q, zq_r, zq_s, zq_t, zq_u, zq_v, zq_w, zq_x, zq_y, zq_z, zq_A, zq_B, zq_C, zq_D, zq_E, zq_F, zq_G, zq_H, zq_I, zq_J, zq_K, zq_L, ↓zq_M, ↓zq_N, ↓zq_O, ↓zq_P, ↓zq_Q, ↓zq_R, zq_S, zq_T, zq_U, zq_V, zq_W, zq_X, zq_Y, zq_Z, zq_0, zq_1, zq_2, zq_3, zq_4, zq_5, ↓zq_6, ↓zq_7, ↓zq_8, ↓zq_9, ↓zq_aa, zq_ab, zq_ac, zq_ad, zq_ae, zq_af, zq_ag, ↓zq_ah, ↓zq_ai, ↓zq_aj, zq_ak, ↓zq_al, ↓zq_am, e_b1, e_b2, x_o1, x_o2, kk, a3, k]
def cu_nl (g : Int → Int) (p : Int) : Nat := if g (28 * p) = 2 then (g (28 * p + 2)).toNat else 1
def cu_ln (g : Int → Int) (p : Int) (k : Nat) : Int := if g (28 * p) = 2 then g (28 * p + 3 + (k : Int)) else p
def cu_in (g : Int → Int) (p : Int) : Int := if g (28 * p) = 3 then g (28 * p + 3) else p
/-- PUSH of the lines of a PART that is no BOX -/
def cu_F (g : Int → Int) (SH WM : Int → Int) (DI : Int → Nat → Int) (p : Int) : Nat → Nat → Int := fun k c => cu_low g SH WM DI (cu_ln g p k) (c : Int)
theorem rx_cu_sum_306 {p u : Int} {n : Nat} (hm : rx_md M SH WM DI) (hv : hd_cvs (r_G M)) (hp : 0 ≤ p ∧ p < 40) (hp1 : p ≤ r_G M 1198) (hk0 : r_G M (28 * p) = 2) (hn : r_G M (28 * p + 2) = n) (hn6 : n ≤ 6) (hk : ∀ k, 0 ≤ k → k < r_G M (28 * p + 2) → r_cl (r_G M) p (r_G M (28 * p + 3 + k)) ∨ r_rw (r_G M) p (r_G M (28 * p + 3 + k))) : ∀ (d i : Nat) (x3 x4 : Int), x4 = i → i + d = n → x3 = cu_S (cu_F (r_G M) SH WM DI p) u i → E_V 306 35 [192, p, u, x3, x4] M = some (cu_S (cu_F (r_G M) SH WM DI p) u n, M) := by
  have km : E_C 171 [192, p] M = some (r_G M (28 * p + 2), M) := r_many hp
  intro d
  induction d with
  | zero =>
    intro i x3 x4 hx hi h3
    have e : i = n := by omega
    subst e
    rw [← h3]
    have q : ¬ (x4 < r_G M (28 * p + 2)) := by omega
    rw [E_V_eq]
    show e_tv E_C (E_V 306) e_t306_35 [192, p, u, x3, x4] M = _
    unfold e_t306_35
    simp [zq_a, zq_b, zq_c, zq_d, zq_e, zq_f, zq_g, zq_h, zq_i, zq_j, zq_k, zq_l, zq_m, zq_n, zq_o, zq_p, zq_q, zq_r, zq_s, zq_t, zq_u, zq_v, zq_w, zq_x, zq_y, zq_z, zq_A, zq_B, zq_C, zq_D, zq_E, zq_F, zq_G, zq_H, zq_I, zq_J, zq_K, zq_L, ↓zq_M, ↓zq_N, ↓zq_O, ↓zq_P, ↓zq_Q, ↓zq_R, zq_S, zq_T, zq_U, zq_V, zq_W, zq_X, zq_Y, zq_Z, zq_0, zq_1, zq_2, zq_3, zq_4, zq_5, ↓zq_6, ↓zq_7, ↓zq_8, ↓zq_9, ↓zq_aa, zq_ab, zq_ac, zq_ad, zq_ae, zq_af, zq_ag, ↓zq_ah, ↓zq_ai, ↓zq_aj, zq_ak, ↓zq_al, ↓zq_am, e_b1, e_b2, x_o1, x_o2, q, km]
  | succ d ih =>
    intro i x3 x4 hx hi h3
    have q : x4 < r_G M (28 * p + 2) := by omega
    have w4 : e_w (x4 + 1) = x4 + 1 := a_w_id (by omega) (by omega)
    have ko : E_C 172 [192, p, x4] M = some (r_G M (28 * p + 3 + x4), M) := r_of hp ⟨by omega, by omega⟩
    have kt := rx_cu_lo_307 (u := u) hm hv (show p ≤ 40 by omega) hp1 (hk x4 (by omega) q)
    have es : cu_S (cu_F (r_G M) SH WM DI p) u (i + 1) = x3 + (cu_cu (fun c : Nat => cu_low (r_G M) SH WM DI (r_G M (28 * p + 3 + x4)) (c : Int)) u 99 : Int) := by
      rw [h3, hx]
      show cu_S (cu_F (r_G M) SH WM DI p) u i + (cu_cu (cu_F (r_G M) SH WM DI p i) u 99 : Int) = _
      unfold cu_F cu_ln
      rw [if_pos hk0]
    have b1 := cu_S_bd (F := cu_F (r_G M) SH WM DI p) (u := u) i
    rw [← h3] at b1
    have b2 := cu_cu_le (f := fun c : Nat => cu_low (r_G M) SH WM DI (r_G M (28 * p + 3 + x4)) (c : Int)) (u := u) 99
    have k := ih (i + 1) _ (x4 + 1) (by omega) (by omega) rfl
    rw [es] at k
    clear es ih h3
    revert kt k b2
    generalize cu_cu (fun c : Nat => cu_low (r_G M) SH WM DI (r_G M (28 * p + 3 + x4)) (c : Int)) u 99 = t
    intro kt b2 k
    have w5 : e_w (x3 + (t : Int)) = x3 + (t : Int) := a_w_id (by omega) (by omega)
    rw [E_V_eq]
    show e_tv E_C (E_V 306) e_t306_35 [192, p, u, x3, x4] M = _
    unfold e_t306_35
    simp [zq_a, zq_b, zq_c, zq_d, zq_e, zq_f, zq_g, zq_h, zq_i, zq_j, zq_k, zq_l, zq_m, zq_n, zq_o, zq_p, zq_q, zq_r, zq_s, zq_t, zq_u, zq_v, zq_w, zq_x, zq_y, zq_z, zq_A, zq_B, zq_C, zq_D, zq_E, zq_F, zq_G, zq_H, zq_I, zq_J, zq_K, zq_L, ↓zq_M, ↓zq_N, ↓zq_O, ↓zq_P, ↓zq_Q, ↓zq_R, zq_S, zq_T, zq_U, zq_V, zq_W, zq_X, zq_Y, zq_Z, zq_0, zq_1, zq_2, zq_3, zq_4, zq_5, ↓zq_6, ↓zq_7, ↓zq_8, ↓zq_9, ↓zq_aa, zq_ab, zq_ac, zq_ad, zq_ae, zq_af, zq_ag, ↓zq_ah, ↓zq_ai, ↓zq_aj, zq_ak, ↓zq_al, ↓zq_am, e_b1, e_b2, x_o1, x_o2, q, km, ko, kt, w4, w5, k]
theorem rx_cu_nb_306 {b p u : Int} (hm : rx_md M SH WM DI) (hv : hd_cvs (r_G M)) (hb : b ≤ 40) (hb1 : b ≤ r_G M 1198) (hp : r_cl (r_G M) b p ∨ r_rw (r_G M) b p ∨ r_fd (r_G M) b p) : E_C 306 [192, p, u] M = some (cu_S (cu_F (r_G M) SH WM DI p) u (cu_nl (r_G M) p), M) := by
  have low : ∀ hp : r_cl (r_G M) b p ∨ r_rw (r_G M) b p, E_C 306 [192, p, u] M = some (cu_S (cu_F (r_G M) SH WM DI p) u (cu_nl (r_G M) p), M) := by
    intro hp
    have k := rx_cu_lo_306 (u := u) hm hv hb hb1 hp
    have k0 : ¬ r_G M (28 * p) = 2 := by
      rcases hp with hp | hp
      · have := hp.2.2.1; omega
      · have := hp.2.2.1; omega
    rw [k]
    unfold cu_nl
    rw [if_neg k0]
    show _ = some (0 + (cu_cu (cu_F (r_G M) SH WM DI p 0) u 99 : Int), M)
    rw [Int.zero_add]
    unfold cu_F cu_ln
    rw [if_neg k0]
  rcases hp with hp | hp | hp
  · exact low (Or.inl hp)
  · exact low (Or.inr hp)
  · obtain ⟨a1, a2, a3, a4, a5, a6⟩ := hp
    obtain ⟨n, hn⟩ : ∃ n : Nat, r_G M (28 * p + 2) = n := ⟨(r_G M (28 * p + 2)).toNat, by omega⟩
    have kk : E_C 170 [192, p] M = some (r_G M (28 * p), M) := r_kind ⟨a1, by omega⟩
    have k := rx_cu_sum_306 (u := u) hm hv ⟨a1, by omega⟩ (by omega) a3 hn (by omega) a6 n 0 0 0 rfl (by omega) rfl
    unfold cu_nl
    rw [if_pos a3, hn, Int.toNat_natCast]
    rw [r_ent (show e_rok 306 [192, p, u] = true from decide_eq_true r_ref)]
    show e_tv E_C (E_V 306) e_t306_0 [192, p, u, 0, 0] M = _
    unfold e_t306_0
    simp [zq_a, zq_b, zq_c, zq_d, zq_e, zq_f, zq_g, zq_h, zq_i, zq_j, zq_k, zq_l, zq_m, zq_n, zq_o, zq_p, zq_q, zq_r, zq_s, zq_t, zq_u, zq_v, zq_w, zq_x, zq_y, zq_z, zq_A, zq_B, zq_C, zq_D, zq_E, zq_F, zq_G, zq_H, zq_I, zq_J, zq_K, zq_L, ↓zq_M, ↓zq_N, ↓zq_O, ↓zq_P, ↓zq_Q, ↓zq_R, zq_S, zq_T, zq_U, zq_V, zq_W, zq_X, zq_Y, zq_Z, zq_0, zq_1, zq_2, zq_3, zq_4, zq_5, ↓zq_6, ↓zq_7, ↓zq_8, ↓zq_9, ↓zq_aa, zq_ab, zq_ac, zq_ad, zq_ae, zq_af, zq_ag, ↓zq_ah, ↓zq_ai, ↓zq_aj, zq_ak, ↓zq_al, ↓zq_am, e_b1, e_b2, x_o1, x_o2, kk, a3, k]
theorem rx_cu_sum_202 {p u : Int} {n : Nat} (hm : rx_md M SH WM DI) (hv : hd_cvs (r_G M)) (hp : 0 ≤ p ∧ p < 40) (hp1 : p ≤ r_G M 1198) (hk0 : r_G M (28 * p) = 2) (hn : r_G M (28 * p + 2) = n) (hn6 : n ≤ 6) (hk : ∀ k, 0 ≤ k → k < r_G M (28 * p + 2) → r_cl (r_G M) p (r_G M (28 * p + 3 + k)) ∨ r_rw (r_G M) p (r_G M (28 * p + 3 + k))) : ∀ (d i : Nat) (x3 x4 : Int), x4 = i → i + d = n → x3 = cu_S (cu_F (r_G M) SH WM DI p) u i → E_V 202 35 [192, p, u, x3, x4] M = some (cu_S (cu_F (r_G M) SH WM DI p) u n, M) := by
  have km : E_C 171 [192, p] M = some (r_G M (28 * p + 2), M) := r_many hp
  intro d
  induction d with
  | zero =>
    intro i x3 x4 hx hi h3
    have e : i = n := by omega
    subst e
    rw [← h3]
    have q : ¬ (x4 < r_G M (28 * p + 2)) := by omega
    rw [E_V_eq]
    show e_tv E_C (E_V 202) e_t202_35 [192, p, u, x3, x4] M = _
    unfold e_t202_35
    simp [zq_a, zq_b, zq_c, zq_d, zq_e, zq_f, zq_g, zq_h, zq_i, zq_j, zq_k, zq_l, zq_m, zq_n, zq_o, zq_p, zq_q, zq_r, zq_s, zq_t, zq_u, zq_v, zq_w, zq_x, zq_y, zq_z, zq_A, zq_B, zq_C, zq_D, zq_E, zq_F, zq_G, zq_H, zq_I, zq_J, zq_K, zq_L, ↓zq_M, ↓zq_N, ↓zq_O, ↓zq_P, ↓zq_Q, ↓zq_R, zq_S, zq_T, zq_U, zq_V, zq_W, zq_X, zq_Y, zq_Z, zq_0, zq_1, zq_2, zq_3, zq_4, zq_5, ↓zq_6, ↓zq_7, ↓zq_8, ↓zq_9, ↓zq_aa, zq_ab, zq_ac, zq_ad, zq_ae, zq_af, zq_ag, ↓zq_ah, ↓zq_ai, ↓zq_aj, zq_ak, ↓zq_al, ↓zq_am, e_b1, e_b2, x_o1, x_o2, q, km]
  | succ d ih =>
    intro i x3 x4 hx hi h3
    have q : x4 < r_G M (28 * p + 2) := by omega
    have w4 : e_w (x4 + 1) = x4 + 1 := a_w_id (by omega) (by omega)
    have ko : E_C 172 [192, p, x4] M = some (r_G M (28 * p + 3 + x4), M) := r_of hp ⟨by omega, by omega⟩
    have kt := rx_cu_lo_306 (u := u) hm hv (show p ≤ 40 by omega) hp1 (hk x4 (by omega) q)
    have es : cu_S (cu_F (r_G M) SH WM DI p) u (i + 1) = x3 + (cu_cu (fun c : Nat => cu_low (r_G M) SH WM DI (r_G M (28 * p + 3 + x4)) (c : Int)) u 99 : Int) := by
      rw [h3, hx]
      show cu_S (cu_F (r_G M) SH WM DI p) u i + (cu_cu (cu_F (r_G M) SH WM DI p i) u 99 : Int) = _
      unfold cu_F cu_ln
      rw [if_pos hk0]
    have b1 := cu_S_bd (F := cu_F (r_G M) SH WM DI p) (u := u) i
    rw [← h3] at b1
    have b2 := cu_cu_le (f := fun c : Nat => cu_low (r_G M) SH WM DI (r_G M (28 * p + 3 + x4)) (c : Int)) (u := u) 99
    have k := ih (i + 1) _ (x4 + 1) (by omega) (by omega) rfl
    rw [es] at k
    clear es ih h3
    revert kt k b2
    generalize cu_cu (fun c : Nat => cu_low (r_G M) SH WM DI (r_G M (28 * p + 3 + x4)) (c : Int)) u 99 = t
    intro kt b2 k
    have w5 : e_w (x3 + (t : Int)) = x3 + (t : Int) := a_w_id (by omega) (by omega)
    rw [E_V_eq]
    show e_tv E_C (E_V 202) e_t202_35 [192, p, u, x3, x4] M = _
    unfold e_t202_35
    simp [zq_a, zq_b, zq_c, zq_d, zq_e, zq_f, zq_g, zq_h, zq_i, zq_j, zq_k, zq_l, zq_m, zq_n, zq_o, zq_p, zq_q, zq_r, zq_s, zq_t, zq_u, zq_v, zq_w, zq_x, zq_y, zq_z, zq_A, zq_B, zq_C, zq_D, zq_E, zq_F, zq_G, zq_H, zq_I, zq_J, zq_K, zq_L, ↓zq_M, ↓zq_N, ↓zq_O, ↓zq_P, ↓zq_Q, ↓zq_R, zq_S, zq_T, zq_U, zq_V, zq_W, zq_X, zq_Y, zq_Z, zq_0, zq_1, zq_2, zq_3, zq_4, zq_5, ↓zq_6, ↓zq_7, ↓zq_8, ↓zq_9, ↓zq_aa, zq_ab, zq_ac, zq_ad, zq_ae, zq_af, zq_ag, ↓zq_ah, ↓zq_ai, ↓zq_aj, zq_ak, ↓zq_al, ↓zq_am, e_b1, e_b2, x_o1, x_o2, q, km, ko, kt, w4, w5, k]
theorem rx_cu_nb_202 {b p u : Int} (hm : rx_md M SH WM DI) (hv : hd_cvs (r_G M)) (hb : b ≤ 40) (hb1 : b ≤ r_G M 1198) (hp : r_cl (r_G M) b p ∨ r_rw (r_G M) b p ∨ r_fd (r_G M) b p) : E_C 202 [192, p, u] M = some (cu_S (cu_F (r_G M) SH WM DI p) u (cu_nl (r_G M) p), M) := by
  have low : ∀ hp : r_cl (r_G M) b p ∨ r_rw (r_G M) b p, E_C 202 [192, p, u] M = some (cu_S (cu_F (r_G M) SH WM DI p) u (cu_nl (r_G M) p), M) := by
    intro hp
    have k := rx_cu_lo_202 (u := u) hm hv hb hb1 hp
    have k0 : ¬ r_G M (28 * p) = 2 := by
      rcases hp with hp | hp
      · have := hp.2.2.1; omega
      · have := hp.2.2.1; omega
    rw [k]
    unfold cu_nl
    rw [if_neg k0]
    show _ = some (0 + (cu_cu (cu_F (r_G M) SH WM DI p 0) u 99 : Int), M)
    rw [Int.zero_add]
    unfold cu_F cu_ln
    rw [if_neg k0]
  rcases hp with hp | hp | hp
  · exact low (Or.inl hp)
  · exact low (Or.inr hp)
  · obtain ⟨a1, a2, a3, a4, a5, a6⟩ := hp
    obtain ⟨n, hn⟩ : ∃ n : Nat, r_G M (28 * p + 2) = n := ⟨(r_G M (28 * p + 2)).toNat, by omega⟩
    have kk : E_C 170 [192, p] M = some (r_G M (28 * p), M) := r_kind ⟨a1, by omega⟩
    have k := rx_cu_sum_202 (u := u) hm hv ⟨a1, by omega⟩ (by omega) a3 hn (by omega) a6 n 0 0 0 rfl (by omega) rfl
    unfold cu_nl
    rw [if_pos a3, hn, Int.toNat_natCast]
    rw [r_ent (show e_rok 202 [192, p, u] = true from decide_eq_true r_ref)]
    show e_tv E_C (E_V 202) e_t202_0 [192, p, u, 0, 0] M = _
    unfold e_t202_0
    simp [zq_a, zq_b, zq_c, zq_d, zq_e, zq_f, zq_g, zq_h, zq_i, zq_j, zq_k, zq_l, zq_m, zq_n, zq_o, zq_p, zq_q, zq_r, zq_s, zq_t, zq_u, zq_v, zq_w, zq_x, zq_y, zq_z, zq_A, zq_B, zq_C, zq_D, zq_E, zq_F, zq_G, zq_H, zq_I, zq_J, zq_K, zq_L, ↓zq_M, ↓zq_N, ↓zq_O, ↓zq_P, ↓zq_Q, ↓zq_R, zq_S, zq_T, zq_U, zq_V, zq_W, zq_X, zq_Y, zq_Z, zq_0, zq_1, zq_2, zq_3, zq_4, zq_5, ↓zq_6, ↓zq_7, ↓zq_8, ↓zq_9, ↓zq_aa, zq_ab, zq_ac, zq_ad, zq_ae, zq_af, zq_ag, ↓zq_ah, ↓zq_ai, ↓zq_aj, zq_ak, ↓zq_al, ↓zq_am, e_b1, e_b2, x_o1, x_o2, kk, a3, k]
/-- CURRENT of a PART at u -/
theorem rx_currentOf {b p u : Int} (hm : rx_md M SH WM DI) (hv : hd_cvs (r_G M)) (hb : b ≤ 40) (hb1 : b ≤ r_G M 1198) (hp : r_pt (r_G M) b p) : E_C 202 [192, p, u] M = some (cu_S (cu_F (r_G M) SH WM DI (cu_in (r_G M) p)) u (cu_nl (r_G M) (cu_in (r_G M) p)), M) := by
  have nb : ∀ hp : r_cl (r_G M) b p ∨ r_rw (r_G M) b p ∨ r_fd (r_G M) b p, ¬ r_G M (28 * p) = 3 := by
    intro hp
    rcases hp with hp | hp | hp
    · have := hp.2.2.1; omega
    · have := hp.2.2.1; omega
    · have := hp.2.2.1; omega
  have go : ∀ hp : r_cl (r_G M) b p ∨ r_rw (r_G M) b p ∨ r_fd (r_G M) b p, E_C 202 [192, p, u] M = some (cu_S (cu_F (r_G M) SH WM DI (cu_in (r_G M) p)) u (cu_nl (r_G M) (cu_in (r_G M) p)), M) := by
    intro hp
    unfold cu_in
    rw [if_neg (nb hp)]
    exact rx_cu_nb_202 hm hv hb hb1 hp
  rcases hp with hp | hp | hp | hp
  · exact go (Or.inl hp)
  · exact go (Or.inr (Or.inl hp))
  · exact go (Or.inr (Or.inr hp))
  · obtain ⟨a1, a2, a3, a4, a5⟩ := hp
    have h40 : 0 ≤ p ∧ p < 40 := ⟨a1, by omega⟩
    have kk : E_C 170 [192, p] M = some (r_G M (28 * p), M) := r_kind h40
    have ko : E_C 172 [192, p, 0] M = some (r_G M (28 * p + 3 + 0), M) := r_of h40 ⟨by decide, by decide⟩
    rw [Int.add_zero] at ko
    have k := rx_cu_nb_306 (u := u) hm hv (show p ≤ 40 by omega) (by omega) a5
    unfold cu_in
    rw [if_pos a3]
    rw [r_ent (show e_rok 202 [192, p, u] = true from decide_eq_true r_ref)]
    show e_tv E_C (E_V 202) e_t202_0 [192, p, u, 0, 0] M = _
    unfold e_t202_0
    simp [zq_a, zq_b, zq_c, zq_d, zq_e, zq_f, zq_g, zq_h, zq_i, zq_j, zq_k, zq_l, zq_m, zq_n, zq_o, zq_p, zq_q, zq_r, zq_s, zq_t, zq_u, zq_v, zq_w, zq_x, zq_y, zq_z, zq_A, zq_B, zq_C, zq_D, zq_E, zq_F, zq_G, zq_H, zq_I, zq_J, zq_K, zq_L, ↓zq_M, ↓zq_N, ↓zq_O, ↓zq_P, ↓zq_Q, ↓zq_R, zq_S, zq_T, zq_U, zq_V, zq_W, zq_X, zq_Y, zq_Z, zq_0, zq_1, zq_2, zq_3, zq_4, zq_5, ↓zq_6, ↓zq_7, ↓zq_8, ↓zq_9, ↓zq_aa, zq_ab, zq_ac, zq_ad, zq_ae, zq_af, zq_ag, ↓zq_ah, ↓zq_ai, ↓zq_aj, zq_ak, ↓zq_al, ↓zq_am, e_b1, e_b2, x_o1, x_o2, kk, a3, ko, k]
end RXL
