/-! the FAULTS that FIT, found by the class -/
theorem dg_F0 (M : EM) : e_gf 128 [187] M = some (M 187 0) := c_gf (by decide +kernel) (by decide +kernel)
theorem dg_P0 (v : Int) (M : EM) : e_pf 128 [187, v] M = some (e_up M 187 0 v) := c_pf (by decide +kernel) (by decide +kernel)
theorem dg_G1 (M : EM) : e_gf 129 [187] M = some 188 := p_g 129 187 188 M (by decide +kernel)
theorem dg_G2 (M : EM) : e_gf 130 [187] M = some 189 := p_g 130 187 189 M (by decide +kernel)
theorem dg_G3 (M : EM) : e_gf 131 [187] M = some 190 := p_g 131 187 190 M (by decide +kernel)
theorem dg_8 (M : EM) : e_gf 712 [8] M = some 187 := p_g 712 8 187 M (by decide +kernel)
theorem dg_r {u : Nat} {as : List Int} (h : as.getD 0 0 = 187) (hc : q_rc (e_vm u) = some 2) : e_rok u as = true := by
  unfold e_rok
  rw [hc]
  show decide (e_isO 2 (as.getD 0 0)) = true
  rw [h]
  exact decide_eq_true (by decide +kernel)
/-- does what is MEASURED agree, pair by pair -/
def ft_a (E : Nat → Int) (F : Int → Int) : Nat → Int
  | 0 => 1
  | m + 1 => if ft_a E F m = 0 then 0 else if F (E (2 * m)) = E (2 * m + 1) then 1 else 0
theorem ft_a01 {E : Nat → Int} {F : Int → Int} : ∀ m, ft_a E F m = 0 ∨ ft_a E F m = 1 := by
  intro m
  cases m with
  | zero => exact Or.inr rfl
  | succ m =>
    show (if ft_a E F m = 0 then (0 : Int) else if F (E (2 * m)) = E (2 * m + 1) then 1 else 0) = 0 ∨ (if ft_a E F m = 0 then (0 : Int) else if F (E (2 * m)) = E (2 * m + 1) then 1 else 0) = 1
    by_cases c : ft_a E F m = 0
    · rw [if_pos c]; exact Or.inl rfl
    · rw [if_neg c]
      by_cases d : F (E (2 * m)) = E (2 * m + 1)
      · rw [if_pos d]; exact Or.inr rfl
      · rw [if_neg d]; exact Or.inl rfl
theorem ft_a_s {E : Nat → Int} {F : Int → Int} {m : Nat} (h : ft_a E F m = 1) : ft_a E F (m + 1) = if F (E (2 * m)) = E (2 * m + 1) then 1 else 0 := by
  show (if ft_a E F m = 0 then (0 : Int) else if F (E (2 * m)) = E (2 * m + 1) then 1 else 0) = _
  rw [if_neg (by omega)]
theorem ft_a_0 {E : Nat → Int} {F : Int → Int} {m : Nat} (h : ft_a E F m = 0) : ∀ d, ft_a E F (m + d) = 0 := by
  intro d
  induction d with
  | zero => exact h
  | succ d ih => exact if_pos ih
theorem ft_42 {B : EM} {s : Int} {n m : Nat} {E : Nat → Int} {F : Int → Int} (hh : s ∈ a_SH) (h5 : B s.toNat 5 = n) (hn : n = 2 * m) (hn9 : n ≤ 120) (hE : ∀ i, i < n → B (s + 1).toNat i = E i) (hb : ∀ i, i < n → -128 ≤ E i ∧ E i ≤ 127) (h6 : B 170 6 = -128) (hF : ∀ k : Nat, k < 256 → B 181 k = F (-128 + (k : Int))) : E_C 42 [170, s] B = some (ft_a E F m, B) := by
  obtain ⟨-, -, -, f5⟩ := h_sf hh B
  rw [h5] at f5
  obtain ⟨s1, s2, s3, s4, s5, -, -⟩ := w_sh hh
  have f6 : e_gf 518 [s] B = some (s + 1) := (c_gr s1 (by decide +kernel)).trans (congrArg some s5)
  have lp : ∀ (d i : Nat) (x2 : Int), x2 = ((2 * i : Nat) : Int) → i + d = m → ft_a E F i = 1 → E_V 42 2 [170, s, x2] B = some (ft_a E F m, B) := by
    intro d
    induction d with
    | zero =>
      intro i x2 hx hi ha
      have e : i = m := by omega
      subst e
      rw [ha]
      obtain ⟨nn, hnn⟩ : ∃ nn : Int, (n : Int) = nn := ⟨_, rfl⟩
      rw [hnn] at f5
      have w1 : e_w (x2 + 1) = x2 + 1 := a_w_id (by omega) (by omega)
      have q : ¬ (x2 + 1 < nn) := by omega
      clear hE hb hF
      rw [E_V_eq]
      show e_tv E_C (E_V 42) e_t42_2 [170, s, x2] B = _
      unfold e_t42_2
      simp [zq_a, zq_b, zq_c, zq_d, zq_e, zq_f, zq_g, zq_h, zq_i, zq_j, zq_k, zq_l, zq_m, zq_n, zq_o, zq_p, zq_q, zq_r, zq_s, zq_t, zq_u, zq_v, zq_w, zq_x, zq_y, zq_z, zq_A, zq_B, zq_C, zq_D, zq_E, zq_F, zq_G, zq_H, zq_I, zq_J, zq_K, zq_L, ↓zq_M, ↓zq_N, ↓zq_O, ↓zq_P, ↓zq_Q, ↓zq_R, zq_S, zq_T, zq_U, zq_V, zq_W, zq_X, zq_Y, zq_Z, zq_0, zq_1, zq_2, zq_3, zq_4, zq_5, ↓zq_6, ↓zq_7, ↓zq_8, ↓zq_9, ↓zq_aa, zq_ab, zq_ac, zq_ad, zq_ae, zq_af, zq_ag, ↓zq_ah, ↓zq_ai, ↓zq_aj, zq_ak, ↓zq_al, ↓zq_am, e_b1, e_b2, x_o1, x_o2, f5, w1, q]
    | succ d ih =>
      intro i x2 hx hi ha
      have eb := hb (2 * i) (by omega)
      obtain ⟨ev, hev⟩ : ∃ ev, E (2 * i) = ev := ⟨_, rfl⟩
      obtain ⟨eo, heo⟩ : ∃ eo, E (2 * i + 1) = eo := ⟨_, rfl⟩
      rw [hev] at eb
      have t0 : E_C 146 [s + 1, x2] B = some (ev, B) := (w_atN (a := s + 1) (n := 120) ⟨s2, s3, s4⟩ (j := 2 * i) hx (by omega) B).trans (by rw [hE _ (by omega), hev])
      have t1 : E_C 146 [s + 1, x2 + 1] B = some (eo, B) := (w_atN (a := s + 1) (n := 120) ⟨s2, s3, s4⟩ (j := 2 * i + 1) (by omega) (by omega) B).trans (by rw [hE _ (by omega), heo])
      have c19 : E_C 19 [170, ev] B = some (F ev, B) := by
        rw [bx_19 (lo := -128) (k := (ev + 128).toNat) h6 (by decide) (by omega) (by omega), hF _ (by omega), show -128 + (((ev + 128).toNat : Nat) : Int) = ev by omega]
      have as := ft_a_s ha
      rw [hev, heo] at as
      obtain ⟨nn, hnn⟩ : ∃ nn : Int, (n : Int) = nn := ⟨_, rfl⟩
      rw [hnn] at f5
      have w1 : e_w (x2 + 1) = x2 + 1 := a_w_id (by omega) (by omega)
      have w2 : e_w (x2 + 2) = x2 + 2 := a_w_id (by omega) (by omega)
      have q : x2 + 1 < nn := by omega
      by_cases c : F ev = eo
      · rw [if_pos c] at as
        have k := ih (i + 1) (x2 + 2) (by omega) (by omega) as
        rw [c] at c19
        rw [← k]
        clear hE hb hF ih k as ha
        rw [E_V_eq]
        show e_tv E_C (E_V 42) e_t42_2 [170, s, x2] B = _
        unfold e_t42_2
        simp [zq_a, zq_b, zq_c, zq_d, zq_e, zq_f, zq_g, zq_h, zq_i, zq_j, zq_k, zq_l, zq_m, zq_n, zq_o, zq_p, zq_q, zq_r, zq_s, zq_t, zq_u, zq_v, zq_w, zq_x, zq_y, zq_z, zq_A, zq_B, zq_C, zq_D, zq_E, zq_F, zq_G, zq_H, zq_I, zq_J, zq_K, zq_L, ↓zq_M, ↓zq_N, ↓zq_O, ↓zq_P, ↓zq_Q, ↓zq_R, zq_S, zq_T, zq_U, zq_V, zq_W, zq_X, zq_Y, zq_Z, zq_0, zq_1, zq_2, zq_3, zq_4, zq_5, ↓zq_6, ↓zq_7, ↓zq_8, ↓zq_9, ↓zq_aa, zq_ab, zq_ac, zq_ad, zq_ae, zq_af, zq_ag, ↓zq_ah, ↓zq_ai, ↓zq_aj, zq_ak, ↓zq_al, ↓zq_am, e_b1, e_b2, x_o1, x_o2, f5, f6, w1, w2, q, t0, t1, c19]
      · rw [if_neg c] at as
        have z := ft_a_0 as d
        rw [show i + 1 + d = m by omega] at z
        rw [z]
        generalize F ev = fv at *
        clear hE hb hF ih as ha z
        rw [E_V_eq]
        show e_tv E_C (E_V 42) e_t42_2 [170, s, x2] B = _
        unfold e_t42_2
        simp [zq_a, zq_b, zq_c, zq_d, zq_e, zq_f, zq_g, zq_h, zq_i, zq_j, zq_k, zq_l, zq_m, zq_n, zq_o, zq_p, zq_q, zq_r, zq_s, zq_t, zq_u, zq_v, zq_w, zq_x, zq_y, zq_z, zq_A, zq_B, zq_C, zq_D, zq_E, zq_F, zq_G, zq_H, zq_I, zq_J, zq_K, zq_L, ↓zq_M, ↓zq_N, ↓zq_O, ↓zq_P, ↓zq_Q, ↓zq_R, zq_S, zq_T, zq_U, zq_V, zq_W, zq_X, zq_Y, zq_Z, zq_0, zq_1, zq_2, zq_3, zq_4, zq_5, ↓zq_6, ↓zq_7, ↓zq_8, ↓zq_9, ↓zq_aa, zq_ab, zq_ac, zq_ad, zq_ae, zq_af, zq_ag, ↓zq_ah, ↓zq_ai, ↓zq_aj, zq_ak, ↓zq_al, ↓zq_am, e_b1, e_b2, x_o1, x_o2, f5, f6, w1, w2, q, t0, t1, c19, c]
  have k := lp m 0 0 rfl (by omega) rfl
  rw [r_ent (show e_rok 42 [170, s] = true from rfl)]
  show e_tv E_C (E_V 42) e_t42_0 [170, s, 0] B = _
  unfold e_t42_0
  simp [zq_a, zq_b, zq_c, zq_d, zq_e, zq_f, zq_g, zq_h, zq_i, zq_j, zq_k, zq_l, zq_m, zq_n, zq_o, zq_p, zq_q, zq_r, zq_s, zq_t, zq_u, zq_v, zq_w, zq_x, zq_y, zq_z, zq_A, zq_B, zq_C, zq_D, zq_E, zq_F, zq_G, zq_H, zq_I, zq_J, zq_K, zq_L, ↓zq_M, ↓zq_N, ↓zq_O, ↓zq_P, ↓zq_Q, ↓zq_R, zq_S, zq_T, zq_U, zq_V, zq_W, zq_X, zq_Y, zq_Z, zq_0, zq_1, zq_2, zq_3, zq_4, zq_5, ↓zq_6, ↓zq_7, ↓zq_8, ↓zq_9, ↓zq_aa, zq_ab, zq_ac, zq_ad, zq_ae, zq_af, zq_ag, ↓zq_ah, ↓zq_ai, ↓zq_aj, zq_ak, ↓zq_al, ↓zq_am, e_b1, e_b2, x_o1, x_o2, k]
/-- a FAULT noted, with what would be seen -/
theorem ft_43 {B : EM} {f0 : Int} {c : Nat} {F : Int → Int} (h0 : B 187 0 = c) (hc : c ≤ 80) (h6 : B 170 6 = -128) (hF : ∀ k : Nat, k < 256 → B 181 k = F (-128 + (k : Int))) : ∃ B', E_C 43 [187, 170, f0] B = some (0, B') ∧ B' 187 0 = ((c + 1 : Nat) : Int) ∧ B' 188 c = f0 ∧ (∀ u : Nat, u < 121 → B' 189 (121 * c + u) = F (u : Int)) ∧ (∀ id k, ¬ (187 ≤ id ∧ id ≤ 189) → B' id k = B id k) ∧ (∀ k, k ≠ c → B' 188 k = B 188 k) ∧ ∀ k, k < 121 * c → B' 189 k = B 189 k := by
  have lp : ∀ (d u : Nat) (x3 : Int) (K : EM), x3 = u → u + d = 121 → (∀ v : Nat, v < u → K 189 (121 * c + v) = F (v : Int)) → (∀ id k, ¬ (id = 189 ∧ 121 * c ≤ k) → K id k = e_up B 188 c f0 id k) → ∃ B', E_V 43 14 [187, 170, f0, x3] K = some (0, B') ∧ B' 187 0 = ((c + 1 : Nat) : Int) ∧ B' 188 c = f0 ∧ (∀ u : Nat, u < 121 → B' 189 (121 * c + u) = F (u : Int)) ∧ (∀ id k, ¬ (187 ≤ id ∧ id ≤ 189) → B' id k = B id k) ∧ (∀ k, k ≠ c → B' 188 k = B 188 k) ∧ ∀ k, k < 121 * c → B' 189 k = B 189 k := by
    intro d
    induction d with
    | zero =>
      intro u x3 K hx hu hv hk
      have e : u = 121 := by omega
      subst e
      have k0 : K 187 0 = (c : Int) := (hk _ _ (by omega)).trans ((c_up_n (by omega)).trans h0)
      refine ⟨e_up K 187 0 ((c : Int) + 1), ?_, by rw [c_up_s]; omega, ?_, fun v hv' => ?_, fun id k h => ?_, fun k h => ?_, fun k h => ?_⟩
      · have w1 : e_w ((c : Int) + 1) = (c : Int) + 1 := a_w_id (by omega) (by omega)
        have q : ¬ (x3 < 121) := by omega
        clear hv hk hF
        generalize (c : Int) = cc at *
        rw [E_V_eq]
        show e_tv E_C (E_V 43) e_t43_14 [187, 170, f0, x3] K = _
        unfold e_t43_14
        simp [zq_a, zq_b, zq_c, zq_d, zq_e, zq_f, zq_g, zq_h, zq_i, zq_j, zq_k, zq_l, zq_m, zq_n, zq_o, zq_p, zq_q, zq_r, zq_s, zq_t, zq_u, zq_v, zq_w, zq_x, zq_y, zq_z, zq_A, zq_B, zq_C, zq_D, zq_E, zq_F, zq_G, zq_H, zq_I, zq_J, zq_K, zq_L, ↓zq_M, ↓zq_N, ↓zq_O, ↓zq_P, ↓zq_Q, ↓zq_R, zq_S, zq_T, zq_U, zq_V, zq_W, zq_X, zq_Y, zq_Z, zq_0, zq_1, zq_2, zq_3, zq_4, zq_5, ↓zq_6, ↓zq_7, ↓zq_8, ↓zq_9, ↓zq_aa, zq_ab, zq_ac, zq_ad, zq_ae, zq_af, zq_ag, ↓zq_ah, ↓zq_ai, ↓zq_aj, zq_ak, ↓zq_al, ↓zq_am, e_b1, e_b2, x_o1, x_o2, dg_F0, dg_P0, k0, w1, q]
      · rw [c_up_n (by omega), hk _ _ (by omega), c_up_s]
      · rw [c_up_n (by omega)]
        exact hv v hv'
      · rw [c_up_n (by omega), hk _ _ (by omega), c_up_n (by omega)]
      · rw [c_up_n (by omega), hk _ _ (by omega), c_up_n (by omega)]
      · rw [c_up_n (by omega), hk _ _ (by omega), c_up_n (by omega)]
    | succ d ih =>
      intro u x3 K hx hu hv hk
      have k0 : K 187 0 = (c : Int) := (hk _ _ (by omega)).trans ((c_up_n (by omega)).trans h0)
      have c19 : E_C 19 [170, x3] K = some (F x3, K) := by
        rw [bx_19 (lo := -128) (k := (x3 + 128).toNat) ((hk _ _ (by omega)).trans ((c_up_n (by omega)).trans h6)) (by decide) (by omega) (by omega), hk _ _ (by omega), c_up_n (by omega), hF _ (by omega), show -128 + (((x3 + 128).toNat : Nat) : Int) = x3 by omega]
      have l : E_C 147 [189, (c : Int) * 121 + x3, F x3] K = some (0, e_up K 189 (121 * c + u) (F x3)) := w_layN (a := 189) (n := 9801) (by decide +kernel) (j := 121 * c + u) (by omega) (by omega) _ K
      obtain ⟨B', k, kk⟩ := ih (u + 1) (x3 + 1) (e_up K 189 (121 * c + u) (F x3)) (by omega) (by omega) (fun v hv' => by
        by_cases e : v = u
        · rw [e, c_up_s, hx]
        · rw [c_up_n (by omega)]
          exact hv v (by omega)) (fun id k h => by rw [c_up_n (by omega)]; exact hk id k h)
      refine ⟨B', ?_, kk⟩
      rw [← k]
      have w1 : e_w ((c : Int) * 121) = (c : Int) * 121 := a_w_id (by omega) (by omega)
      have w2 : e_w ((c : Int) * 121 + x3) = (c : Int) * 121 + x3 := a_w_id (by omega) (by omega)
      have w3 : e_w (x3 + 1) = x3 + 1 := a_w_id (by omega) (by omega)
      have q : x3 < 121 := by omega
      clear hv hk hF ih k kk
      generalize F x3 = fv at *
      generalize (c : Int) = cc at *
      rw [E_V_eq]
      show e_tv E_C (E_V 43) e_t43_14 [187, 170, f0, x3] K = _
      unfold e_t43_14
      simp [zq_a, zq_b, zq_c, zq_d, zq_e, zq_f, zq_g, zq_h, zq_i, zq_j, zq_k, zq_l, zq_m, zq_n, zq_o, zq_p, zq_q, zq_r, zq_s, zq_t, zq_u, zq_v, zq_w, zq_x, zq_y, zq_z, zq_A, zq_B, zq_C, zq_D, zq_E, zq_F, zq_G, zq_H, zq_I, zq_J, zq_K, zq_L, ↓zq_M, ↓zq_N, ↓zq_O, ↓zq_P, ↓zq_Q, ↓zq_R, zq_S, zq_T, zq_U, zq_V, zq_W, zq_X, zq_Y, zq_Z, zq_0, zq_1, zq_2, zq_3, zq_4, zq_5, ↓zq_6, ↓zq_7, ↓zq_8, ↓zq_9, ↓zq_aa, zq_ab, zq_ac, zq_ad, zq_ae, zq_af, zq_ag, ↓zq_ah, ↓zq_ai, ↓zq_aj, zq_ak, ↓zq_al, ↓zq_am, e_b1, e_b2, x_o1, x_o2, dg_F0, dg_G2, k0, w1, w2, w3, q, c19, l]
  obtain ⟨B', k, kk⟩ := lp 121 0 0 (e_up B 188 c f0) rfl rfl (fun v h => absurd h (Nat.not_lt_zero _)) (fun _ _ _ => rfl)
  refine ⟨B', ?_, kk⟩
  have l : E_C 147 [188, (c : Int), f0] B = some (0, e_up B 188 c f0) := w_layN (a := 188) (n := 81) (by decide +kernel) (j := c) rfl (by omega) _ B
  rw [r_ent (show e_rok 43 [187, 170, f0] = true from dg_r rfl (by decide +kernel))]
  show e_tv E_C (E_V 43) e_t43_0 [187, 170, f0, 0] B = _
  unfold e_t43_0
  clear kk hF
  generalize (c : Int) = cc at *
  simp [zq_a, zq_b, zq_c, zq_d, zq_e, zq_f, zq_g, zq_h, zq_i, zq_j, zq_k, zq_l, zq_m, zq_n, zq_o, zq_p, zq_q, zq_r, zq_s, zq_t, zq_u, zq_v, zq_w, zq_x, zq_y, zq_z, zq_A, zq_B, zq_C, zq_D, zq_E, zq_F, zq_G, zq_H, zq_I, zq_J, zq_K, zq_L, ↓zq_M, ↓zq_N, ↓zq_O, ↓zq_P, ↓zq_Q, ↓zq_R, zq_S, zq_T, zq_U, zq_V, zq_W, zq_X, zq_Y, zq_Z, zq_0, zq_1, zq_2, zq_3, zq_4, zq_5, ↓zq_6, ↓zq_7, ↓zq_8, ↓zq_9, ↓zq_aa, zq_ab, zq_ac, zq_ad, zq_ae, zq_af, zq_ag, ↓zq_ah, ↓zq_ai, ↓zq_aj, zq_ak, ↓zq_al, ↓zq_am, e_b1, e_b2, x_o1, x_o2, dg_F0, dg_G1, h0, l, k]
/-- how many FAULTS may be, by the class -/
theorem ft_29 {B : EM} {c n d : Nat} (h0 : B 170 0 = c) (h4 : B 170 4 = n) (hn : n ≤ 40) (hc : c ≤ 40) (h01 : ∀ y, y < n → B 172 y = 0 ∨ B 172 y = 1) (hd : gd_n (fun y => B 172 y) n = d) : E_C 29 [170] B = some (((1 + c + d : Nat) : Int), B) := by
  have k6 := dd_6 h4 hn h01
  have dl := gd_n_le (D := fun y => B 172 y) n
  rw [hd] at k6 dl
  have w1 : e_w (1 + (c : Int)) = 1 + (c : Int) := a_w_id (by omega) (by omega)
  have w2 : e_w (1 + (c : Int) + (d : Int)) = 1 + (c : Int) + (d : Int) := a_w_id (by omega) (by omega)
  rw [show ((1 + c + d : Nat) : Int) = 1 + (c : Int) + (d : Int) by omega]
  rw [r_ent (show e_rok 29 [170] = true from bx_r (M := B) rfl (by decide +kernel))]
  show e_tv E_C (E_V 29) e_t29_0 [170] B = _
  unfold e_t29_0
  clear h01 hd h4
  generalize (c : Int) = cc at *
  generalize (d : Int) = dd at *
  simp [zq_a, zq_b, zq_c, zq_d, zq_e, zq_f, zq_g, zq_h, zq_i, zq_j, zq_k, zq_l, zq_m, zq_n, zq_o, zq_p, zq_q, zq_r, zq_s, zq_t, zq_u, zq_v, zq_w, zq_x, zq_y, zq_z, zq_A, zq_B, zq_C, zq_D, zq_E, zq_F, zq_G, zq_H, zq_I, zq_J, zq_K, zq_L, ↓zq_M, ↓zq_N, ↓zq_O, ↓zq_P, ↓zq_Q, ↓zq_R, zq_S, zq_T, zq_U, zq_V, zq_W, zq_X, zq_Y, zq_Z, zq_0, zq_1, zq_2, zq_3, zq_4, zq_5, ↓zq_6, ↓zq_7, ↓zq_8, ↓zq_9, ↓zq_aa, zq_ab, zq_ac, zq_ad, zq_ae, zq_af, zq_ag, ↓zq_ah, ↓zq_ai, ↓zq_aj, zq_ak, ↓zq_al, ↓zq_am, e_b1, e_b2, x_o1, x_o2, bx_F0, h0, k6, w1, w2]
section FTF
variable {M N : EM} {g : Int → Int} {X : Nat → Int} {L : Nat} {C D : Nat → Int}
/-- CURRENTS of a PART with FAULT f; whether it FITS -/
def ft_s (g : Int → Int) (X : Nat → Int) (L : Nat) (C D : Nat → Int) (f : Nat) (u : Int) : Int := bx_s g (ft_SH g (ft_dc C (bx_oc g X L) f)) (hd_WM g) (ft_DI g (ft_br D (bx_oc g X L) f)) X L u
def ft_Q (E : Nat → Int) (m : Nat) (F : Nat → Int → Int) (f : Nat) : Int := ft_a E (F f) m
/-- what is noted once f FAULTS have been tried -/
def ft_R (Q : Nat → Int) (F : Nat → Int → Int) (B : EM) (f : Nat) : Prop := B 187 0 = (gd_n Q f : Int) ∧ ∀ j, j < f → Q j ≠ 0 → B 188 (gd_n Q j) = (j : Int) ∧ ∀ u : Nat, u < 121 → B 189 (121 * gd_n Q j + u) = F j (u : Int)
theorem ft_s_bd (h : L ≤ 6) {f : Nat} {u : Int} : 0 ≤ ft_s g X L C D f u ∧ ft_s g X L C D f u ≤ 594 := by
  have := cu_S_bd (F := fun l c => cu_low g (ft_SH g (ft_dc C (bx_oc g X L) f)) (hd_WM g) (ft_DI g (ft_br D (bx_oc g X L) f)) (X l) (c : Int)) (u := u) L
  unfold ft_s bx_s
  omega
theorem ft_41 (H : ft_H M N g X L C D) {s : Int} {n m : Nat} {E : Nat → Int} {B0 : EM} (I0 : ft_I g X L N B0) (hh : s ∈ a_SH) (h5 : M s.toNat 5 = n) (hn : n = 2 * m) (hn9 : n ≤ 120) (hE : ∀ i, i < n → M (s + 1).toNat i = E i) (hb : ∀ i, i < n → -128 ≤ E i ∧ E i ≤ 127) : ∃ B', E_C 41 [187, 170, s] B0 = some (0, B') ∧ ft_I g X L N B' ∧ ft_R (ft_Q E m (ft_s g X L C D)) (ft_s g X L C D) B' (1 + bx_oc g X L + ga_od g X L) := by
  have H0 := H
  obtain ⟨h40, hD, hC, ⟨⟨L1, L6⟩, ok, hoc, hog⟩, ij, hS, hN, e, HC, HD⟩ := H
  have odl := ga_od_le (g := g) (X := X) L
  obtain ⟨c, hc⟩ : ∃ c, bx_oc g X L = c := ⟨_, rfl⟩
  obtain ⟨dn, hdn⟩ : ∃ dn, ga_od g X L = dn := ⟨_, rfl⟩
  obtain ⟨Q, hQ⟩ : ∃ Q, ft_Q E m (ft_s g X L C D) = Q := ⟨_, rfl⟩
  have s146 : 146 ≤ s ∧ s ≤ 160 := (w_sh hh).2.2.2.2.2
  have lp : ∀ (d f : Nat) (x4 x5 : Int) (B : EM), x4 = f → f + d = 1 + c + dn → ft_I g X L N B → ft_R Q (ft_s g X L C D) B f → ∃ B', E_V 41 13 [187, 170, s, ((1 + c + dn : Nat) : Int), x4, x5] B = some (0, B') ∧ ft_I g X L N B' ∧ ft_R Q (ft_s g X L C D) B' (1 + c + dn) := by
    intro d
    induction d with
    | zero =>
      intro f x4 x5 B hx hf I R
      have ef : f = 1 + c + dn := by omega
      subst ef
      refine ⟨B, ?_, I, R⟩
      have q : ¬ (x4 < ((1 + c + dn : Nat) : Int)) := by omega
      clear I R hx hf
      generalize ((1 + c + dn : Nat) : Int) = x3 at *
      rw [E_V_eq]
      show e_tv E_C (E_V 41) e_t41_13 [187, 170, s, x3, x4, x5] B = _
      unfold e_t41_13
      simp [zq_a, zq_b, zq_c, zq_d, zq_e, zq_f, zq_g, zq_h, zq_i, zq_j, zq_k, zq_l, zq_m, zq_n, zq_o, zq_p, zq_q, zq_r, zq_s, zq_t, zq_u, zq_v, zq_w, zq_x, zq_y, zq_z, zq_A, zq_B, zq_C, zq_D, zq_E, zq_F, zq_G, zq_H, zq_I, zq_J, zq_K, zq_L, ↓zq_M, ↓zq_N, ↓zq_O, ↓zq_P, ↓zq_Q, ↓zq_R, zq_S, zq_T, zq_U, zq_V, zq_W, zq_X, zq_Y, zq_Z, zq_0, zq_1, zq_2, zq_3, zq_4, zq_5, ↓zq_6, ↓zq_7, ↓zq_8, ↓zq_9, ↓zq_aa, zq_ab, zq_ac, zq_ad, zq_ae, zq_af, zq_ag, ↓zq_ah, ↓zq_ai, ↓zq_aj, zq_ak, ↓zq_al, ↓zq_am, e_b1, e_b2, x_o1, x_o2, q]
    | succ d ih =>
      intro f x4 x5 B hx hf I R
      have hfl : f < 1 + bx_oc g X L + ga_od g X L := by omega
      obtain ⟨z1, hz1⟩ : ∃ z1, e_w (x4 - (c : Int)) = z1 := ⟨_, rfl⟩
      obtain ⟨z2, hz2⟩ : ∃ z2, e_w (z1 - 1) = z2 := ⟨_, rfl⟩
      obtain ⟨G, kG, B1, k30, u1, u2, u3⟩ := ft_u H0 I (f := f) (f0 := x4) hx hfl (z1 := z1) (z2 := z2) (by rw [hc]; exact hz1) hz2
      have b0 : B 170 0 = (c : Int) := (I.2 _ _ (by decide) (by decide) (by decide)).trans (hS.1.trans (by rw [hc]))
      obtain ⟨B2, k17, c6, c7, c8⟩ := bx_cur (lo := -128) (hi := 127) (n := 256) hD (ft_bd (a := ft_dc C (bx_oc g X L) f) (hd_bd hC)) ok L6 hoc hog u1 (by decide) (by decide) (by decide)
      have c7' : ∀ k : Nat, k < 256 → B2 181 k = ft_s g X L C D f (-128 + (k : Int)) := c7
      have mB2 : ∀ id k, id < 162 → B2 id k = M id k := fun id k h => by
        rw [c8 _ _ (by omega) (by omega) (by omega), u2 _ _ (by omega), I.2 _ _ (by omega) (by omega) (by omega)]
        exact congrFun (e id h) k
      have k42 := ft_42 (B := B2) (F := ft_s g X L C D f) (m := m) hh ((mB2 _ _ (by omega)).trans h5) hn hn9 (fun i hi => (mB2 _ _ (by omega)).trans (hE i hi)) hb c6 c7'
      have eQ : ft_a E (ft_s g X L C D f) m = Q f := by rw [← hQ]; rfl
      rw [eQ] at k42
      have w4 : e_w (x4 + 1) = x4 + 1 := a_w_id (by omega) (by omega)
      have q : x4 < ((1 + c + dn : Nat) : Int) := by omega
      have d2 : ∀ id k, 187 ≤ id → id ≤ 190 → B2 id k = B id k := fun id k h1 h2 => by
        rw [c8 _ _ (by omega) (by omega) (by omega), u2 _ _ (by omega)]
      have go : ∀ x3 : Int, x3 = ((1 + c + dn : Nat) : Int) → ∀ B3, (∀ id k, ¬ (187 ≤ id ∧ id ≤ 190) → B3 id k = B2 id k) → ft_R Q (ft_s g X L C D) B3 (f + 1) → ∃ B', E_V 41 63 [187, 170, s, x3, x4, G] B3 = some (0, B') ∧ ft_I g X L N B' ∧ ft_R Q (ft_s g X L C D) B' (1 + c + dn) := by
        intro x3 hx3 B3 f3 R3
        obtain ⟨B4, k31, I4, f4⟩ := u3 B3 (fun id k i1 i2 i3 i4 => (f3 id k i4).trans (c8 id k i1 i2 i3))
        obtain ⟨r1, r2⟩ := R3
        obtain ⟨B', k, kk⟩ := ih (f + 1) (x4 + 1) G B4 (by omega) (by omega) I4 ⟨(f4 _ _ (by decide)).trans r1, fun j hj hq => ⟨(f4 _ _ (by decide)).trans (r2 j hj hq).1, fun u hu => (f4 _ _ (by decide)).trans ((r2 j hj hq).2 u hu)⟩⟩
        refine ⟨B', ?_, kk⟩
        rw [← hx3] at k
        rw [E_V_eq]
        show e_tv E_C (E_V 41) e_t41_63 [187, 170, s, x3, x4, G] B3 = _
        unfold e_t41_63
        simp [zq_a, zq_b, zq_c, zq_d, zq_e, zq_f, zq_g, zq_h, zq_i, zq_j, zq_k, zq_l, zq_m, zq_n, zq_o, zq_p, zq_q, zq_r, zq_s, zq_t, zq_u, zq_v, zq_w, zq_x, zq_y, zq_z, zq_A, zq_B, zq_C, zq_D, zq_E, zq_F, zq_G, zq_H, zq_I, zq_J, zq_K, zq_L, ↓zq_M, ↓zq_N, ↓zq_O, ↓zq_P, ↓zq_Q, ↓zq_R, zq_S, zq_T, zq_U, zq_V, zq_W, zq_X, zq_Y, zq_Z, zq_0, zq_1, zq_2, zq_3, zq_4, zq_5, ↓zq_6, ↓zq_7, ↓zq_8, ↓zq_9, ↓zq_aa, zq_ab, zq_ac, zq_ad, zq_ae, zq_af, zq_ag, ↓zq_ah, ↓zq_ai, ↓zq_aj, zq_ak, ↓zq_al, ↓zq_am, e_b1, e_b2, x_o1, x_o2, k31, w4, k]
      have fin : ∀ x3 : Int, x3 = ((1 + c + dn : Nat) : Int) → ∃ B', E_V 41 13 [187, 170, s, x3, x4, x5] B = some (0, B') ∧ ft_I g X L N B' ∧ ft_R Q (ft_s g X L C D) B' (1 + c + dn) := by
        intro x3 hx3
        rw [← hx3] at q
        have gl := gd_n_le (D := Q) f
        by_cases cq : Q f = 0
        · have eg : gd_n Q (f + 1) = gd_n Q f := gd_n_0 cq
          obtain ⟨B', k, kk⟩ := go x3 hx3 B2 (fun _ _ _ => rfl) ⟨by rw [eg]; exact (d2 _ _ (by decide) (by decide)).trans R.1, fun j hj hq => by
            have hj' : j < f := by
              rcases Nat.lt_or_ge j f with c | c
              · exact c
              · have e2 : j = f := by omega
                subst e2
                exact absurd cq hq
            exact ⟨(d2 _ _ (by decide) (by decide)).trans (R.2 j hj' hq).1, fun u hu => (d2 _ _ (by decide) (by decide)).trans ((R.2 j hj' hq).2 u hu)⟩⟩
          refine ⟨B', ?_, kk⟩
          rw [cq] at k42
          clear go kk ih u1 u2 u3 c7 c7' c8 mB2 d2 I R
          rw [E_V_eq]
          show e_tv E_C (E_V 41) e_t41_13 [187, 170, s, x3, x4, x5] B = _
          unfold e_t41_13
          simp [zq_a, zq_b, zq_c, zq_d, zq_e, zq_f, zq_g, zq_h, zq_i, zq_j, zq_k, zq_l, zq_m, zq_n, zq_o, zq_p, zq_q, zq_r, zq_s, zq_t, zq_u, zq_v, zq_w, zq_x, zq_y, zq_z, zq_A, zq_B, zq_C, zq_D, zq_E, zq_F, zq_G, zq_H, zq_I, zq_J, zq_K, zq_L, ↓zq_M, ↓zq_N, ↓zq_O, ↓zq_P, ↓zq_Q, ↓zq_R, zq_S, zq_T, zq_U, zq_V, zq_W, zq_X, zq_Y, zq_Z, zq_0, zq_1, zq_2, zq_3, zq_4, zq_5, ↓zq_6, ↓zq_7, ↓zq_8, ↓zq_9, ↓zq_aa, zq_ab, zq_ac, zq_ad, zq_ae, zq_af, zq_ag, ↓zq_ah, ↓zq_ai, ↓zq_aj, zq_ak, ↓zq_al, ↓zq_am, e_b1, e_b2, x_o1, x_o2, bx_F0, b0, q, hz1, hz2, kG, k30, k17, k42, k]
        · have eg : gd_n Q (f + 1) = gd_n Q f + 1 := gd_n_1 cq
          obtain ⟨B3, k43, n0, n1, n2, n3, n4, n5⟩ := ft_43 (B := B2) (f0 := x4) (c := gd_n Q f) (F := ft_s g X L C D f) ((d2 _ _ (by decide) (by decide)).trans R.1) (by omega) c6 c7'
          obtain ⟨B', k, kk⟩ := go x3 hx3 B3 (fun id k h => n3 id k (by omega)) ⟨by rw [eg]; exact n0, fun j hj hq => by
            rcases Nat.lt_or_ge j f with c | c
            · have lt : gd_n Q j + 1 ≤ gd_n Q f := by
                have a := gd_n_m (D := Q) (m := j + 1) (f - (j + 1))
                rw [gd_n_1 hq, show j + 1 + (f - (j + 1)) = f by omega] at a
                exact a
              refine ⟨?_, fun u hu => ?_⟩
              · rw [n4 _ (by omega)]
                exact (d2 _ _ (by decide) (by decide)).trans (R.2 j c hq).1
              · rw [n5 _ (by omega)]
                exact (d2 _ _ (by decide) (by decide)).trans ((R.2 j c hq).2 u hu)
            · have e2 : j = f := by omega
              subst e2
              exact ⟨n1.trans hx, n2⟩⟩
          refine ⟨B', ?_, kk⟩
          clear go kk ih u1 u2 u3 c7 c7' c8 mB2 d2 I R n0 n1 n2 n3 n4 n5 eg gl eQ
          generalize Q f = qf at *
          rw [E_V_eq]
          show e_tv E_C (E_V 41) e_t41_13 [187, 170, s, x3, x4, x5] B = _
          unfold e_t41_13
          simp [zq_a, zq_b, zq_c, zq_d, zq_e, zq_f, zq_g, zq_h, zq_i, zq_j, zq_k, zq_l, zq_m, zq_n, zq_o, zq_p, zq_q, zq_r, zq_s, zq_t, zq_u, zq_v, zq_w, zq_x, zq_y, zq_z, zq_A, zq_B, zq_C, zq_D, zq_E, zq_F, zq_G, zq_H, zq_I, zq_J, zq_K, zq_L, ↓zq_M, ↓zq_N, ↓zq_O, ↓zq_P, ↓zq_Q, ↓zq_R, zq_S, zq_T, zq_U, zq_V, zq_W, zq_X, zq_Y, zq_Z, zq_0, zq_1, zq_2, zq_3, zq_4, zq_5, ↓zq_6, ↓zq_7, ↓zq_8, ↓zq_9, ↓zq_aa, zq_ab, zq_ac, zq_ad, zq_ae, zq_af, zq_ag, ↓zq_ah, ↓zq_ai, ↓zq_aj, zq_ak, ↓zq_al, ↓zq_am, e_b1, e_b2, x_o1, x_o2, bx_F0, b0, q, hz1, hz2, kG, k30, k17, k42, cq, k43, k]
      exact fin _ rfl
  have i0 : ∀ k, e_up B0 187 0 0 170 k = B0 170 k := fun k => c_up_n (by omega)
  have I1 : ft_I g X L N (e_up B0 187 0 0) := by
    obtain ⟨⟨r1, r2, r3, r4⟩, fr⟩ := I0
    exact ⟨⟨(c_up_n (by omega)).trans r1, fun l hl => (c_up_n (by omega)).trans (r2 l hl), fun l k hl hk => ⟨(c_up_n (by omega)).trans (r3 l k hl hk).1, fun c hc => (c_up_n (by omega)).trans ((r3 l k hl hk).2 c hc)⟩, fun l y hl hy => (c_up_n (by omega)).trans (r4 l y hl hy)⟩, fun id k i1 i2 i3 => (c_up_n (by omega)).trans (fr id k i1 i2 i3)⟩
  obtain ⟨B', k, kI, kR⟩ := lp (1 + c + dn) 0 0 0 (e_up B0 187 0 0) rfl (by omega) I1 ⟨c_up_s, fun j hj => absurd hj (Nat.not_lt_zero _)⟩
  have k29 : E_C 29 [170] (e_up B0 187 0 0) = some (((1 + c + dn : Nat) : Int), e_up B0 187 0 0) := by
    have f := I1.2
    have e172 : ∀ y, e_up B0 187 0 0 172 y = N 172 y := fun y => f _ _ (by omega) (by omega) (by omega)
    refine ft_29 (n := bx_og g X L) ((f _ _ (by decide) (by decide) (by decide)).trans (hS.1.trans (by rw [hc]))) ((f _ _ (by decide) (by decide) (by decide)).trans hS.2.1) hog (by omega) (fun y hy => by rw [e172]; exact dd_01 hN L (Nat.le_refl _) y hy) ?_
    rw [gd_n_cg (D := fun y => N 172 y) (D' := fun y => e_up B0 187 0 0 172 y) _ (fun y _ => by
      show e_up B0 187 0 0 172 y ≠ 0 ↔ N 172 y ≠ 0
      rw [e172]), dd_sum hS ok L (Nat.le_refl _), hdn]
  rw [hc, hdn, hQ]
  refine ⟨B', ?_, kI, kR⟩
  rw [r_ent (show e_rok 41 [187, 170, s] = true from dg_r rfl (by decide +kernel))]
  show e_tv E_C (E_V 41) e_t41_0 [187, 170, s, 0, 0, 0] B0 = _
  unfold e_t41_0
  clear kI kR I1 lp I0
  generalize ((1 + c + dn : Nat) : Int) = x3 at *
  simp [zq_a, zq_b, zq_c, zq_d, zq_e, zq_f, zq_g, zq_h, zq_i, zq_j, zq_k, zq_l, zq_m, zq_n, zq_o, zq_p, zq_q, zq_r, zq_s, zq_t, zq_u, zq_v, zq_w, zq_x, zq_y, zq_z, zq_A, zq_B, zq_C, zq_D, zq_E, zq_F, zq_G, zq_H, zq_I, zq_J, zq_K, zq_L, ↓zq_M, ↓zq_N, ↓zq_O, ↓zq_P, ↓zq_Q, ↓zq_R, zq_S, zq_T, zq_U, zq_V, zq_W, zq_X, zq_Y, zq_Z, zq_0, zq_1, zq_2, zq_3, zq_4, zq_5, ↓zq_6, ↓zq_7, ↓zq_8, ↓zq_9, ↓zq_aa, zq_ab, zq_ac, zq_ad, zq_ae, zq_af, zq_ag, ↓zq_ah, ↓zq_ai, ↓zq_aj, zq_ak, ↓zq_al, ↓zq_am, e_b1, e_b2, x_o1, x_o2, dg_P0, k29, k]
end FTF
