section
/-! push: PUSH at a CURRENT, by class and reference -/
def pu_x (f : Nat → Int) (c : Int) : Nat → Int
  | 0 => -1
  | u + 1 => if f u < c then pu_x f c u else (u : Int)
def ax_U (g : Int → Int) (p c : Int) : Int := if g (28 * cu_in g p) = 2 then pu_x (fun u => ax_S g p (u : Int)) c 1000 else cu_low g (hd_SH g) (hd_WM g) (hd_DI g) (cu_in g p) c
theorem pu_x_bd {f : Nat → Int} {c : Int} : ∀ n, -1 ≤ pu_x f c n ∧ pu_x f c n ≤ n := by
  intro n
  induction n with
  | zero => exact ⟨Int.le_refl _, by show (-1 : Int) ≤ 0; decide⟩
  | succ n ih =>
    show -1 ≤ (if f n < c then pu_x f c n else (n : Int)) ∧ (if f n < c then pu_x f c n else (n : Int)) ≤ ((n + 1 : Nat) : Int)
    split <;> omega
section PU
variable {M M1 M2 : EM} {p c r1 r2 : Int}
/-- the class: down from the highest PUSH -/
theorem pu_16 {f : Nat → Int} (h6 : M 170 6 = 0) (hs : ∀ u : Nat, u < 1000 → M 181 u = f u) : ∀ (n : Nat) (x2 : Int), n ≤ 1000 → x2 + 1 = n → E_V 16 37 [170, c, x2] M = some (pu_x f c n, M) := by
  intro n
  induction n with
  | zero =>
    intro x2 hn hx
    have e : x2 = -1 := by omega
    subst e
    show _ = some (-1, M)
    clear hs
    rw [E_V_eq]
    show e_tv E_C (E_V 16) e_t16_37 [170, c, -1] M = _
    unfold e_t16_37
    simp [zq_a, zq_b, zq_c, zq_d, zq_e, zq_f, zq_g, zq_h, zq_i, zq_j, zq_k, zq_l, zq_m, zq_n, zq_o, zq_p, zq_q, zq_r, zq_s, zq_t, zq_u, zq_v, zq_w, zq_x, zq_y, zq_z, zq_A, zq_B, zq_C, zq_D, zq_E, zq_F, zq_G, zq_H, zq_I, zq_J, zq_K, zq_L, ↓zq_M, ↓zq_N, ↓zq_O, ↓zq_P, ↓zq_Q, ↓zq_R, zq_S, zq_T, zq_U, zq_V, zq_W, zq_X, zq_Y, zq_Z, zq_0, zq_1, zq_2, zq_3, zq_4, zq_5, ↓zq_6, ↓zq_7, ↓zq_8, ↓zq_9, ↓zq_aa, zq_ab, zq_ac, zq_ad, zq_ae, zq_af, zq_ag, ↓zq_ah, ↓zq_ai, ↓zq_aj, zq_ak, ↓zq_al, ↓zq_am, e_b1, e_b2, x_o1, x_o2]
  | succ n ih =>
    intro x2 hn hx
    have q : 0 ≤ x2 := by omega
    have w : e_w (x2 + -1) = x2 - 1 := (a_w_id (by omega) (by omega)).trans (by omega)
    have k1 := bx_19 (M := M) (u := x2) (lo := 0) (k := n) h6 (by decide) (by omega) (by omega)
    rw [hs n (by omega)] at k1
    have k := ih (x2 - 1) (by omega) (by omega)
    have en : x2 = n := by omega
    show _ = some (if f n < c then pu_x f c n else (n : Int), M)
    rw [← en]
    clear ih hs
    generalize pu_x f c n = z at *
    generalize f n = y at *
    rcases x_lt y c with ⟨c1, c1_n⟩ | ⟨c1, c1_n⟩
    · rw [if_pos c1]
      rw [E_V_eq]
      show e_tv E_C (E_V 16) e_t16_37 [170, c, x2] M = _
      unfold e_t16_37
      simp [zq_a, zq_b, zq_c, zq_d, zq_e, zq_f, zq_g, zq_h, zq_i, zq_j, zq_k, zq_l, zq_m, zq_n, zq_o, zq_p, zq_q, zq_r, zq_s, zq_t, zq_u, zq_v, zq_w, zq_x, zq_y, zq_z, zq_A, zq_B, zq_C, zq_D, zq_E, zq_F, zq_G, zq_H, zq_I, zq_J, zq_K, zq_L, ↓zq_M, ↓zq_N, ↓zq_O, ↓zq_P, ↓zq_Q, ↓zq_R, zq_S, zq_T, zq_U, zq_V, zq_W, zq_X, zq_Y, zq_Z, zq_0, zq_1, zq_2, zq_3, zq_4, zq_5, ↓zq_6, ↓zq_7, ↓zq_8, ↓zq_9, ↓zq_aa, zq_ab, zq_ac, zq_ad, zq_ae, zq_af, zq_ag, ↓zq_ah, ↓zq_ai, ↓zq_aj, zq_ak, ↓zq_al, ↓zq_am, e_b1, e_b2, x_o1, x_o2, q, w, k1, c1, c1_n, k]
    · rw [if_neg (by omega)]
      rw [E_V_eq]
      show e_tv E_C (E_V 16) e_t16_37 [170, c, x2] M = _
      unfold e_t16_37
      simp [zq_a, zq_b, zq_c, zq_d, zq_e, zq_f, zq_g, zq_h, zq_i, zq_j, zq_k, zq_l, zq_m, zq_n, zq_o, zq_p, zq_q, zq_r, zq_s, zq_t, zq_u, zq_v, zq_w, zq_x, zq_y, zq_z, zq_A, zq_B, zq_C, zq_D, zq_E, zq_F, zq_G, zq_H, zq_I, zq_J, zq_K, zq_L, ↓zq_M, ↓zq_N, ↓zq_O, ↓zq_P, ↓zq_Q, ↓zq_R, zq_S, zq_T, zq_U, zq_V, zq_W, zq_X, zq_Y, zq_Z, zq_0, zq_1, zq_2, zq_3, zq_4, zq_5, ↓zq_6, ↓zq_7, ↓zq_8, ↓zq_9, ↓zq_aa, zq_ab, zq_ac, zq_ad, zq_ae, zq_af, zq_ag, ↓zq_ah, ↓zq_ai, ↓zq_aj, zq_ak, ↓zq_al, ↓zq_am, e_b1, e_b2, x_o1, x_o2, q, k1, c1, c1_n]
theorem ax_16 {p : Nat} (h : hd_all M) (hp : (p : Int) < r_G M 1198) (hc : 0 ≤ c ∧ c ≤ 999) : ∃ N M', E_C 1 [170, (p : Int)] M = some (0, N) ∧ E_C 16 [170, c] N = some (ax_U (r_G M) (p : Int) c, M') := by
  obtain ⟨N, k, hX, hS, hN, h7, e, h0⟩ := ax_1 h hp
  obtain ⟨hB, hC, hD, h171⟩ := h
  have h40 := hB.2.1.2
  obtain ⟨⟨L1, L6⟩, ok, hoc, hog⟩ := hX
  obtain ⟨n1, n2, n3, n4, n5, n6⟩ := hN
  have s0 : E_C 16 [170, c] N = e_tv E_C (E_V 16) e_t16_0 [170, c, 0] N := r_ent (u := 16) (as := [170, c]) (M := N) (bx_r (M := N) rfl (by decide +kernel))
  unfold ax_U
  by_cases c2 : r_G M (28 * cu_in (r_G M) (p : Int)) = 2
  · rw [if_pos c2] at h7
    obtain ⟨A, a1, a2, a3⟩ := bx_draw h40 hD e hoc n1 n2 n3 n4 n5 n6
    obtain ⟨B, b1, b2, b3, b4⟩ := bx_cur (lo := 0) (hi := 999) (n := 1000) hD (hd_bd hC) ok L6 hoc hog a2 (by decide) rfl (by decide)
    have sB : ∀ u : Nat, u < 1000 → B 181 u = ax_S (r_G M) (p : Int) (u : Int) := fun u hu => by
      have := b3 u hu
      rw [Int.zero_add] at this
      exact this
    have lp := pu_16 (c := c) b2 sB 1000 999 (by decide) (by decide)
    refine ⟨N, B, k, ?_⟩
    rw [if_pos c2, s0]
    unfold e_t16_0
    clear sB b3 a2 n1 n4 n5 n6 ok hS
    generalize pu_x (fun u => ax_S (r_G M) (p : Int) (u : Int)) c 1000 = z at *
    simp [zq_a, zq_b, zq_c, zq_d, zq_e, zq_f, zq_g, zq_h, zq_i, zq_j, zq_k, zq_l, zq_m, zq_n, zq_o, zq_p, zq_q, zq_r, zq_s, zq_t, zq_u, zq_v, zq_w, zq_x, zq_y, zq_z, zq_A, zq_B, zq_C, zq_D, zq_E, zq_F, zq_G, zq_H, zq_I, zq_J, zq_K, zq_L, ↓zq_M, ↓zq_N, ↓zq_O, ↓zq_P, ↓zq_Q, ↓zq_R, zq_S, zq_T, zq_U, zq_V, zq_W, zq_X, zq_Y, zq_Z, zq_0, zq_1, zq_2, zq_3, zq_4, zq_5, ↓zq_6, ↓zq_7, ↓zq_8, ↓zq_9, ↓zq_aa, zq_ab, zq_ac, zq_ad, zq_ae, zq_af, zq_ag, ↓zq_ah, ↓zq_ai, ↓zq_aj, zq_ak, ↓zq_al, ↓zq_am, e_b1, e_b2, x_o1, x_o2, bx_F7, h7, a1, b1, lp]
  · rw [if_neg c2] at h7
    obtain ⟨A, t1, t2, t3⟩ := bx_12 (M := N) (g := r_G M) (SH := hd_SH (r_G M)) (WM := hd_WM (r_G M)) (c := c) ⟨hc.1, by omega⟩ n2 hoc h40 (fun q hq h0 => bx_d0_cg e ((hD q hq).1 h0)) n1
    have e1 : cu_nl (r_G M) (cu_in (r_G M) (p : Int)) = 1 := if_neg c2
    have e2 : cu_ln (r_G M) (cu_in (r_G M) (p : Int)) 0 = cu_in (r_G M) (p : Int) := if_neg c2
    have m1 := bx_oc_m (g := r_G M) (X := cu_ln (r_G M) (cu_in (r_G M) (p : Int))) (cu_nl (r_G M) (cu_in (r_G M) (p : Int)) - 1) 1
    rw [show 1 + (cu_nl (r_G M) (cu_in (r_G M) (p : Int)) - 1) = cu_nl (r_G M) (cu_in (r_G M) (p : Int)) by omega] at m1
    have m1 : 0 + bx_nc (r_G M) (cu_ln (r_G M) (cu_in (r_G M) (p : Int)) 0) ≤ _ := m1
    have lw := bx_lowp (M := M) (DI := hd_DI (r_G M)) (SH := hd_SH (r_G M)) (WM := hd_WM (r_G M)) (B := A) (l := 0) (l0 := 0) (base := 4000) (b := 4000) (cc := c) (ok 0 (by omega)) (by omega) L6 rfl hoc hog (fun l hl => (t3 _ _ (by decide)).trans (n4 l hl)) (fun k hk => (t3 _ _ (by decide)).trans (n5 0 k (by omega) hk).2) (fun y hy => (t3 _ _ (by decide)).trans (n6 0 y (by omega) hy)) rfl (by decide) (fun k hk => by
      rw [(t2 (bx_oc (r_G M) (cu_ln (r_G M) (cu_in (r_G M) (p : Int))) 0 + k) (by show 0 + k < _; omega)).1, (n5 0 k (by omega) hk).1]) (fun k hk => (bx_vbd hD (hd_bd hC) (ok 0 (by omega)) hk hc.1).1)
    rw [e2] at lw
    refine ⟨N, A, k, ?_⟩
    rw [if_neg c2, s0]
    unfold e_t16_0
    clear t2 n1 n4 n5 n6 ok hS e2
    generalize cu_low (r_G M) (hd_SH (r_G M)) (hd_WM (r_G M)) (hd_DI (r_G M)) (cu_in (r_G M) (p : Int)) c = z at *
    simp [zq_a, zq_b, zq_c, zq_d, zq_e, zq_f, zq_g, zq_h, zq_i, zq_j, zq_k, zq_l, zq_m, zq_n, zq_o, zq_p, zq_q, zq_r, zq_s, zq_t, zq_u, zq_v, zq_w, zq_x, zq_y, zq_z, zq_A, zq_B, zq_C, zq_D, zq_E, zq_F, zq_G, zq_H, zq_I, zq_J, zq_K, zq_L, ↓zq_M, ↓zq_N, ↓zq_O, ↓zq_P, ↓zq_Q, ↓zq_R, zq_S, zq_T, zq_U, zq_V, zq_W, zq_X, zq_Y, zq_Z, zq_0, zq_1, zq_2, zq_3, zq_4, zq_5, ↓zq_6, ↓zq_7, ↓zq_8, ↓zq_9, ↓zq_aa, zq_ab, zq_ac, zq_ad, zq_ae, zq_af, zq_ag, ↓zq_ah, ↓zq_ai, ↓zq_aj, zq_ak, ↓zq_al, ↓zq_am, e_b1, e_b2, x_o1, x_o2, bx_F7, h7, t1, lw]
def ax_Uq (p c n : Int) : Prop := (0 ≤ p ∧ p < n) ∧ 0 ≤ c ∧ c ≤ 999
theorem ax_109s : E_C 109 [8, p, c] M = e_tv E_C (E_V 109) e_t109_0 [8, p, c] M := r_ent (u := 109) (as := [8, p, c]) (M := M) (decide_eq_true c_this)
theorem ax_109a (h : hd_all M) (hq : ax_Uq p c (r_G M 1198)) : ∃ M', E_C 109 [8, p, c] M = some (ax_U (r_G M) p c, M') := by
  obtain ⟨c1, c2, c3⟩ := hq
  have i := h_149 (k := p) (M := M)
  rw [show M 10 0 = r_G M 1198 from h.1.1, if_pos c1] at i
  obtain ⟨q, rfl⟩ : ∃ q : Nat, p = q := ⟨p.toNat, by omega⟩
  obtain ⟨N, M', k, k2⟩ := ax_16 h c1.2 ⟨c2, c3⟩
  refine ⟨M', ?_⟩
  rw [ax_109s]
  unfold e_t109_0
  generalize ax_U (r_G M) (q : Int) c = z at *
  have c3' : ¬ 999 < c := by omega
  simp [zq_a, zq_b, zq_c, zq_d, zq_e, zq_f, zq_g, zq_h, zq_i, zq_j, zq_k, zq_l, zq_m, zq_n, zq_o, zq_p, zq_q, zq_r, zq_s, zq_t, zq_u, zq_v, zq_w, zq_x, zq_y, zq_z, zq_A, zq_B, zq_C, zq_D, zq_E, zq_F, zq_G, zq_H, zq_I, zq_J, zq_K, zq_L, ↓zq_M, ↓zq_N, ↓zq_O, ↓zq_P, ↓zq_Q, ↓zq_R, zq_S, zq_T, zq_U, zq_V, zq_W, zq_X, zq_Y, zq_Z, zq_0, zq_1, zq_2, zq_3, zq_4, zq_5, ↓zq_6, ↓zq_7, ↓zq_8, ↓zq_9, ↓zq_aa, zq_ab, zq_ac, zq_ad, zq_ae, zq_af, zq_ag, ↓zq_ah, ↓zq_ai, ↓zq_aj, zq_ak, ↓zq_al, ↓zq_am, e_b1, e_b2, x_o1, x_o2, ax_bench, i, c2, c3, c3', k, k2]
theorem ax_109b (h : hd_all M) (hq : ¬ ax_Uq p c (r_G M 1198)) : E_C 109 [8, p, c] M = some (e_TH, c_thr M) := by
  have i := h_149 (k := p) (M := M)
  rw [show M 10 0 = r_G M 1198 from h.1.1] at i
  unfold ax_Uq at hq
  rw [ax_109s]
  unfold e_t109_0
  by_cases c1 : 0 ≤ p ∧ p < r_G M 1198
  · rw [if_pos c1] at i
    rcases x_le 0 c with ⟨c2, c2_n⟩ | ⟨c2, c2_n⟩
    · have c3 : 999 < c := by omega
      simp [zq_a, zq_b, zq_c, zq_d, zq_e, zq_f, zq_g, zq_h, zq_i, zq_j, zq_k, zq_l, zq_m, zq_n, zq_o, zq_p, zq_q, zq_r, zq_s, zq_t, zq_u, zq_v, zq_w, zq_x, zq_y, zq_z, zq_A, zq_B, zq_C, zq_D, zq_E, zq_F, zq_G, zq_H, zq_I, zq_J, zq_K, zq_L, ↓zq_M, ↓zq_N, ↓zq_O, ↓zq_P, ↓zq_Q, ↓zq_R, zq_S, zq_T, zq_U, zq_V, zq_W, zq_X, zq_Y, zq_Z, zq_0, zq_1, zq_2, zq_3, zq_4, zq_5, ↓zq_6, ↓zq_7, ↓zq_8, ↓zq_9, ↓zq_aa, zq_ab, zq_ac, zq_ad, zq_ae, zq_af, zq_ag, ↓zq_ah, ↓zq_ai, ↓zq_aj, zq_ak, ↓zq_al, ↓zq_am, e_b1, e_b2, x_o1, x_o2, i, c2, c2_n, c3, c_thr]
    · simp [zq_a, zq_b, zq_c, zq_d, zq_e, zq_f, zq_g, zq_h, zq_i, zq_j, zq_k, zq_l, zq_m, zq_n, zq_o, zq_p, zq_q, zq_r, zq_s, zq_t, zq_u, zq_v, zq_w, zq_x, zq_y, zq_z, zq_A, zq_B, zq_C, zq_D, zq_E, zq_F, zq_G, zq_H, zq_I, zq_J, zq_K, zq_L, ↓zq_M, ↓zq_N, ↓zq_O, ↓zq_P, ↓zq_Q, ↓zq_R, zq_S, zq_T, zq_U, zq_V, zq_W, zq_X, zq_Y, zq_Z, zq_0, zq_1, zq_2, zq_3, zq_4, zq_5, ↓zq_6, ↓zq_7, ↓zq_8, ↓zq_9, ↓zq_aa, zq_ab, zq_ac, zq_ad, zq_ae, zq_af, zq_ag, ↓zq_ah, ↓zq_ai, ↓zq_aj, zq_ak, ↓zq_al, ↓zq_am, e_b1, e_b2, x_o1, x_o2, i, c2, c2_n, c_thr]
  · rw [if_neg c1] at i
    simp [zq_a, zq_b, zq_c, zq_d, zq_e, zq_f, zq_g, zq_h, zq_i, zq_j, zq_k, zq_l, zq_m, zq_n, zq_o, zq_p, zq_q, zq_r, zq_s, zq_t, zq_u, zq_v, zq_w, zq_x, zq_y, zq_z, zq_A, zq_B, zq_C, zq_D, zq_E, zq_F, zq_G, zq_H, zq_I, zq_J, zq_K, zq_L, ↓zq_M, ↓zq_N, ↓zq_O, ↓zq_P, ↓zq_Q, ↓zq_R, zq_S, zq_T, zq_U, zq_V, zq_W, zq_X, zq_Y, zq_Z, zq_0, zq_1, zq_2, zq_3, zq_4, zq_5, ↓zq_6, ↓zq_7, ↓zq_8, ↓zq_9, ↓zq_aa, zq_ab, zq_ac, zq_ad, zq_ae, zq_af, zq_ag, ↓zq_ah, ↓zq_ai, ↓zq_aj, zq_ak, ↓zq_al, ↓zq_am, e_b1, e_b2, x_o1, x_o2, i, c_thr]
theorem ax_U_bd (h : hd_all M) (hq : ax_Uq p c (r_G M 1198)) : -9223372036854775808 ≤ ax_U (r_G M) p c ∧ ax_U (r_G M) p c ≤ 9223372036854775807 := by
  unfold ax_U
  by_cases c2 : r_G M (28 * cu_in (r_G M) p) = 2
  · rw [if_pos c2]
    have := pu_x_bd (f := fun u => ax_S (r_G M) p (u : Int)) (c := c) 1000
    omega
  · rw [if_neg c2]
    obtain ⟨c1, c3, c4⟩ := hq
    obtain ⟨q, rfl⟩ : ∃ q : Nat, p = q := ⟨p.toNat, by omega⟩
    obtain ⟨N, -, hX, -, -, -, -, -⟩ := ax_1 h c1.2
    obtain ⟨hB, hC, hD, h171⟩ := h
    have ok := hX.2.1 0 (by have := hX.1.1; omega)
    have e2 : cu_ln (r_G M) (cu_in (r_G M) (q : Int)) 0 = cu_in (r_G M) (q : Int) := if_neg c2
    rw [e2] at ok
    have vb := fun k hk => (bx_vbd (SH := hd_SH (r_G M)) (WM := hd_WM (r_G M)) hD (hd_bd hC) ok (k := k) hk c3).1
    obtain ⟨z, z1, z2, z3⟩ := ok
    rw [z1] at vb ⊢
    unfold cu_low
    rcases z3 with z3 | ⟨z3, n, gr, ⟨⟨n1, n8, ngr⟩, b1, b2, b3, b4, b5, b6⟩⟩
    · rw [if_pos z3]
      have v := vb 0 (by unfold bx_nc; rw [if_pos z3]; decide)
      rw [show bx_ce (r_G M) (z : Int) 0 = z from if_pos z3] at v
      omega
    · have kn : ¬ r_G M (28 * (z : Int)) = 0 := by omega
      have en : bx_nc (r_G M) (z : Int) = n := by
        unfold bx_nc
        rw [if_neg kn, b1, Int.toNat_natCast]
      rw [if_neg kn, b1, b3, Int.toNat_natCast, Int.toNat_natCast]
      have := cu_R_bd (G := fun k => r_G M (28 * (z : Int) + 11 + (k : Int))) (v := fun k => cu_v (r_G M) (hd_SH (r_G M)) (hd_WM (r_G M)) (r_G M (28 * (z : Int) + 3 + (k : Int))) c) (D := hd_DI (r_G M) (z : Int)) (n := n) n8 (fun k hk => by
        have v := vb k (by omega)
        rw [show bx_ce (r_G M) (z : Int) k = r_G M (28 * (z : Int) + 3 + (k : Int)) from if_neg kn] at v
        show -60 ≤ cu_v _ _ _ (r_G M (28 * (z : Int) + 3 + (k : Int))) c ∧ _
        omega) gr
      omega
/-- the law's helper -/
theorem ax_271a (h : hd_all M) (hq : ax_Uq p c (r_G M 1198)) : ∃ M', E_C 271 [8, p, c, 213] M = some (0, e_up M' 213 0 (ax_U (r_G M) p c)) := by
  obtain ⟨M', k⟩ := ax_109a h hq
  have n := l_TH _ (ax_U_bd h hq)
  refine ⟨M', ?_⟩
  generalize ax_U (r_G M) p c = z at *
  have j16 : ∀ M1, E_V 271 16 [8, p, c, 213, 0] M1 = some (0, M1) := by
    intro M1
    rw [E_V_eq]
    show e_tv E_C (E_V 271) e_t271_16 [8, p, c, 213, 0] M1 = _
    unfold e_t271_16
    simp [zq_a, zq_b, zq_c, zq_d, zq_e, zq_f, zq_g, zq_h, zq_i, zq_j, zq_k, zq_l, zq_m, zq_n, zq_o, zq_p, zq_q, zq_r, zq_s, zq_t, zq_u, zq_v, zq_w, zq_x, zq_y, zq_z, zq_A, zq_B, zq_C, zq_D, zq_E, zq_F, zq_G, zq_H, zq_I, zq_J, zq_K, zq_L, ↓zq_M, ↓zq_N, ↓zq_O, ↓zq_P, ↓zq_Q, ↓zq_R, zq_S, zq_T, zq_U, zq_V, zq_W, zq_X, zq_Y, zq_Z, zq_0, zq_1, zq_2, zq_3, zq_4, zq_5, ↓zq_6, ↓zq_7, ↓zq_8, ↓zq_9, ↓zq_aa, zq_ab, zq_ac, zq_ad, zq_ae, zq_af, zq_ag, ↓zq_ah, ↓zq_ai, ↓zq_aj, zq_ak, ↓zq_al, ↓zq_am, e_b1, e_b2, x_o1, x_o2]
  rw [l_ent (show e_rok 271 [8, p, c, 213] = true from rfl)]
  show e_tv E_C (E_V 271) e_t271_0 [8, p, c, 213, 0] M = _
  unfold e_t271_0
  simp [zq_a, zq_b, zq_c, zq_d, zq_e, zq_f, zq_g, zq_h, zq_i, zq_j, zq_k, zq_l, zq_m, zq_n, zq_o, zq_p, zq_q, zq_r, zq_s, zq_t, zq_u, zq_v, zq_w, zq_x, zq_y, zq_z, zq_A, zq_B, zq_C, zq_D, zq_E, zq_F, zq_G, zq_H, zq_I, zq_J, zq_K, zq_L, ↓zq_M, ↓zq_N, ↓zq_O, ↓zq_P, ↓zq_Q, ↓zq_R, zq_S, zq_T, zq_U, zq_V, zq_W, zq_X, zq_Y, zq_Z, zq_0, zq_1, zq_2, zq_3, zq_4, zq_5, ↓zq_6, ↓zq_7, ↓zq_8, ↓zq_9, ↓zq_aa, zq_ab, zq_ac, zq_ad, zq_ae, zq_af, zq_ag, ↓zq_ah, ↓zq_ai, ↓zq_aj, zq_ak, ↓zq_al, ↓zq_am, e_b1, e_b2, x_o1, x_o2, k, n.1, n.2, l_st213, j16]
theorem ax_271b (h : hd_all M) (hq : ¬ ax_Uq p c (r_G M 1198)) : E_C 271 [8, p, c, 213] M = some (1, c_thr M) := by
  have k := ax_109b h hq
  rw [l_ent (show e_rok 271 [8, p, c, 213] = true from rfl)]
  show e_tv E_C (E_V 271) e_t271_0 [8, p, c, 213, 0] M = _
  unfold e_t271_0
  simp [zq_a, zq_b, zq_c, zq_d, zq_e, zq_f, zq_g, zq_h, zq_i, zq_j, zq_k, zq_l, zq_m, zq_n, zq_o, zq_p, zq_q, zq_r, zq_s, zq_t, zq_u, zq_v, zq_w, zq_x, zq_y, zq_z, zq_A, zq_B, zq_C, zq_D, zq_E, zq_F, zq_G, zq_H, zq_I, zq_J, zq_K, zq_L, ↓zq_M, ↓zq_N, ↓zq_O, ↓zq_P, ↓zq_Q, ↓zq_R, zq_S, zq_T, zq_U, zq_V, zq_W, zq_X, zq_Y, zq_Z, zq_0, zq_1, zq_2, zq_3, zq_4, zq_5, ↓zq_6, ↓zq_7, ↓zq_8, ↓zq_9, ↓zq_aa, zq_ab, zq_ac, zq_ad, zq_ae, zq_af, zq_ag, ↓zq_ah, ↓zq_ai, ↓zq_aj, zq_ak, ↓zq_al, ↓zq_am, e_b1, e_b2, x_o1, x_o2, k]
/-- the reference: down from the highest PUSH -/
theorem pu_206 {f : Nat → Int} {q : Int} (hs : ∀ u : Nat, u < 1000 → M 205 u = f u) : ∀ (n : Nat) (x4 : Int), n ≤ 1000 → x4 + 1 = n → E_V 206 86 [192, p, c, q, x4] M = some (pu_x f c n, M) := by
  intro n
  induction n with
  | zero =>
    intro x4 hn hx
    have e : x4 = -1 := by omega
    subst e
    show _ = some (-1, M)
    clear hs
    rw [E_V_eq]
    show e_tv E_C (E_V 206) e_t206_86 [192, p, c, q, -1] M = _
    unfold e_t206_86
    simp [zq_a, zq_b, zq_c, zq_d, zq_e, zq_f, zq_g, zq_h, zq_i, zq_j, zq_k, zq_l, zq_m, zq_n, zq_o, zq_p, zq_q, zq_r, zq_s, zq_t, zq_u, zq_v, zq_w, zq_x, zq_y, zq_z, zq_A, zq_B, zq_C, zq_D, zq_E, zq_F, zq_G, zq_H, zq_I, zq_J, zq_K, zq_L, ↓zq_M, ↓zq_N, ↓zq_O, ↓zq_P, ↓zq_Q, ↓zq_R, zq_S, zq_T, zq_U, zq_V, zq_W, zq_X, zq_Y, zq_Z, zq_0, zq_1, zq_2, zq_3, zq_4, zq_5, ↓zq_6, ↓zq_7, ↓zq_8, ↓zq_9, ↓zq_aa, zq_ab, zq_ac, zq_ad, zq_ae, zq_af, zq_ag, ↓zq_ah, ↓zq_ai, ↓zq_aj, zq_ak, ↓zq_al, ↓zq_am, e_b1, e_b2, x_o1, x_o2]
  | succ n ih =>
    intro x4 hn hx
    have q0 : 0 ≤ x4 := by omega
    have w : e_w (x4 + -1) = x4 - 1 := (a_w_id (by omega) (by omega)).trans (by omega)
    have l : e_op 60 [205, x4] M = some (f n) := (r_rd5 (by omega) (by omega)).trans (by rw [show x4.toNat = n by omega, hs n (by omega)])
    have k := ih (x4 - 1) (by omega) (by omega)
    have en : x4 = n := by omega
    show _ = some (if f n < c then pu_x f c n else (n : Int), M)
    rw [← en]
    clear ih hs
    generalize pu_x f c n = z at *
    generalize f n = y at *
    rcases x_lt y c with ⟨c1, c1_n⟩ | ⟨c1, c1_n⟩
    · rw [if_pos c1]
      rw [E_V_eq]
      show e_tv E_C (E_V 206) e_t206_86 [192, p, c, q, x4] M = _
      unfold e_t206_86
      simp [zq_a, zq_b, zq_c, zq_d, zq_e, zq_f, zq_g, zq_h, zq_i, zq_j, zq_k, zq_l, zq_m, zq_n, zq_o, zq_p, zq_q, zq_r, zq_s, zq_t, zq_u, zq_v, zq_w, zq_x, zq_y, zq_z, zq_A, zq_B, zq_C, zq_D, zq_E, zq_F, zq_G, zq_H, zq_I, zq_J, zq_K, zq_L, ↓zq_M, ↓zq_N, ↓zq_O, ↓zq_P, ↓zq_Q, ↓zq_R, zq_S, zq_T, zq_U, zq_V, zq_W, zq_X, zq_Y, zq_Z, zq_0, zq_1, zq_2, zq_3, zq_4, zq_5, ↓zq_6, ↓zq_7, ↓zq_8, ↓zq_9, ↓zq_aa, zq_ab, zq_ac, zq_ad, zq_ae, zq_af, zq_ag, ↓zq_ah, ↓zq_ai, ↓zq_aj, zq_ak, ↓zq_al, ↓zq_am, e_b1, e_b2, x_o1, x_o2, r_O25, q0, w, l, c1, c1_n, k]
    · rw [if_neg (by omega)]
      rw [E_V_eq]
      show e_tv E_C (E_V 206) e_t206_86 [192, p, c, q, x4] M = _
      unfold e_t206_86
      simp [zq_a, zq_b, zq_c, zq_d, zq_e, zq_f, zq_g, zq_h, zq_i, zq_j, zq_k, zq_l, zq_m, zq_n, zq_o, zq_p, zq_q, zq_r, zq_s, zq_t, zq_u, zq_v, zq_w, zq_x, zq_y, zq_z, zq_A, zq_B, zq_C, zq_D, zq_E, zq_F, zq_G, zq_H, zq_I, zq_J, zq_K, zq_L, ↓zq_M, ↓zq_N, ↓zq_O, ↓zq_P, ↓zq_Q, ↓zq_R, zq_S, zq_T, zq_U, zq_V, zq_W, zq_X, zq_Y, zq_Z, zq_0, zq_1, zq_2, zq_3, zq_4, zq_5, ↓zq_6, ↓zq_7, ↓zq_8, ↓zq_9, ↓zq_aa, zq_ab, zq_ac, zq_ad, zq_ae, zq_af, zq_ag, ↓zq_ah, ↓zq_ai, ↓zq_aj, zq_ak, ↓zq_al, ↓zq_am, e_b1, e_b2, x_o1, x_o2, r_O25, q0, l, c1, c1_n]
theorem ax_206 {g : Int → Int} (hG : r_G M1 = g) (J1 : r_J M1) (K1 : rx_K M1) (hcs : hd_cs g) (hcv : hd_cvs g) : ∃ r M', E_C 206 [192, p, c] M1 = some (r, M') ∧ (ax_Uq p c (g 1198) → r = ax_U g p c ∧ M' 192 10 = 0) ∧ (¬ ax_Uq p c (g 1198) → M' 192 10 = 1) ∧ ∀ k, M' 213 k = M1 213 k := by
  have hW := (r_J_E J1).2.1
  unfold ax_Uq
  by_cases e : 0 ≤ p ∧ p < g 1198
  · have e' : 0 ≤ p ∧ p < r_G M1 1198 := by rw [hG]; exact e
    have ip := r_ip1 hW e'
    have h40 := r_40 hW e'
    by_cases cw : 0 ≤ c ∧ c ≤ 999
    · have iw := r_in1 (M := M1) cw
      obtain ⟨A, hA⟩ : ∃ A, e_up M1 192 10 0 = A := ⟨_, rfl⟩
      have fA : ∀ id k, ¬ (id = 192 ∧ k = 10) → A id k = M1 id k := fun id k h => by rw [← hA, c_up_n h]
      have a10 : A 192 10 = 0 := by rw [← hA, c_up_s]
      have GA : r_G A = g := (funext fun i => fA _ _ (by omega)).trans hG
      have KA : rx_K A := ⟨(fA _ _ (by omega)).trans K1.1, (fA _ _ (by omega)).trans K1.2.1, (fA _ _ (by omega)).trans K1.2.2⟩
      have A20 : A 192 20 = -1 := (fA _ _ (by omega)).trans J1.2.2.2.2
      have hMD := rx_MD0 GA KA A20 hcs
      have hW' := hW
      rw [hG] at hW'
      have hpt := hW'.2.2.1 p e.1 e.2
      have kk : E_C 170 [192, p] A = some (g (28 * p), A) := by rw [← GA]; exact r_kind h40
      -- the inner PART
      have inn : ∃ q b, cu_in g p = q ∧ (0 ≤ q ∧ q < 40) ∧ b ≤ 40 ∧ b ≤ g 1198 ∧ (r_cl g b q ∨ r_rw g b q ∨ r_fd g b q) ∧ ((g (28 * p) ≠ 3 ∧ q = p) ∨ (g (28 * p) = 3 ∧ E_C 172 [192, p, 0] A = some (q, A))) := by
        have go : ∀ x : r_cl g (g 1198) p ∨ r_rw g (g 1198) p ∨ r_fd g (g 1198) p, _ := fun x => by
          have nb : ¬ g (28 * p) = 3 := by
            rcases x with x | x | x
            · have := x.2.2.1; omega
            · have := x.2.2.1; omega
            · have := x.2.2.1; omega
          exact (⟨p, g 1198, if_neg nb, h40, hW'.2.1, Int.le_refl _, x, Or.inl ⟨nb, rfl⟩⟩ : ∃ q b, cu_in g p = q ∧ (0 ≤ q ∧ q < 40) ∧ b ≤ 40 ∧ b ≤ g 1198 ∧ (r_cl g b q ∨ r_rw g b q ∨ r_fd g b q) ∧ ((g (28 * p) ≠ 3 ∧ q = p) ∨ (g (28 * p) = 3 ∧ E_C 172 [192, p, 0] A = some (q, A))))
        rcases hpt with x | x | x | x
        · exact go (Or.inl x)
        · exact go (Or.inr (Or.inl x))
        · exact go (Or.inr (Or.inr x))
        · obtain ⟨a1, a2, a3, a4, a5⟩ := x
          have ko : E_C 172 [192, p, 0] A = some (g (28 * p + 3), A) := by
            have h := r_of (M := A) (p := p) (k := 0) h40 ⟨by decide, by decide⟩
            rw [Int.add_zero, show A 193 (28 * p + 3).toNat = g (28 * p + 3) from congrFun GA _] at h
            exact h
          refine ⟨g (28 * p + 3), p, if_pos a3, ?_, by omega, by omega, a5, Or.inr ⟨a3, ko⟩⟩
          rcases a5 with y | y | y
          · have := y.1; have := y.2.1; omega
          · have := y.1; have := y.2.1; omega
          · have := y.1; have := y.2.1; omega
      obtain ⟨q, b, i1, i2, i3, i4, i5, i6⟩ := inn
      have kq : E_C 170 [192, q] A = some (g (28 * q), A) := by rw [← GA]; exact r_kind i2
      have fin : ∃ M', (∀ k, M' 213 k = M1 213 k) ∧ M' 192 10 = 0 ∧ ((g (28 * q) ≠ 2 ∧ E_C 201 [192, q, c] A = some (ax_U g p c, M')) ∨ (g (28 * q) = 2 ∧ ∃ B, E_C 203 [192, q] A = some (0, B) ∧ E_V 206 86 [192, p, c, q, 999] B = some (ax_U g p c, M'))) := by
        have low : ∀ x : r_cl g b q ∨ r_rw g b q, _ := fun x => by
          have n2 : ¬ g (28 * q) = 2 := by
            rcases x with x | x
            · have := x.2.2.1; omega
            · have := x.2.2.1; omega
          have kl := rx_low (c := c) (rx_MD_md hMD) (by rw [GA]; exact hcv) i3 (by rw [GA]; exact i4) (by rw [GA]; exact x) ⟨cw.1, by omega⟩
          rw [GA] at kl
          have eU : ax_U g p c = cu_low g (hd_SH g) (hd_WM g) (hd_DI g) q c := by
            unfold ax_U
            rw [i1, if_neg n2]
          rw [← eU] at kl
          exact (⟨A, fun k => fA _ _ (by omega), a10, Or.inl ⟨n2, kl⟩⟩ : ∃ M', (∀ k, M' 213 k = M1 213 k) ∧ M' 192 10 = 0 ∧ ((g (28 * q) ≠ 2 ∧ E_C 201 [192, q, c] A = some (ax_U g p c, M')) ∨ (g (28 * q) = 2 ∧ ∃ B, E_C 203 [192, q] A = some (0, B) ∧ E_V 206 86 [192, p, c, q, 999] B = some (ax_U g p c, M'))))
        rcases i5 with x | x | x
        · exact low (Or.inl x)
        · exact low (Or.inr x)
        · have n2 := x.2.2.1
          obtain ⟨B, k, sm, hs⟩ := rx_gives (p := q) GA hMD hcv i3 i4 (Or.inr (Or.inr (Or.inl x)))
          have eq : cu_in g q = q := if_neg (by omega)
          rw [eq] at hs
          have hs : ∀ u : Nat, u < 1000 → B 205 u = ax_S g p (u : Int) := fun u hu => by
            rw [hs u hu]
            unfold ax_S
            rw [i1]
            rfl
          have lp := pu_206 (p := p) (c := c) (q := q) hs 1000 999 (by decide) (by decide)
          have eU : ax_U g p c = pu_x (fun u => ax_S g p (u : Int)) c 1000 := by
            unfold ax_U
            rw [i1, if_pos n2]
          rw [← eU] at lp
          exact ⟨B, fun k => (sm _ _ (by decide) (by decide)).trans (fA _ _ (by omega)), (sm _ _ (by decide) (by decide)).trans a10, Or.inr ⟨n2, B, k, lp⟩⟩
      obtain ⟨M', f1, f2, f3⟩ := fin
      refine ⟨ax_U g p c, M', ?_, fun _ => ⟨rfl, f2⟩, fun h => absurd ⟨e, cw⟩ h, f1⟩
      clear hMD hcv hcs hW hW' hpt i5 fA
      generalize ax_U g p c = z at *
      rcases i6 with ⟨j1, j2⟩ | ⟨j1, j2⟩
      · subst j2
        rcases f3 with ⟨k1, k2⟩ | ⟨k1, B, k2, k3⟩
        · rw [r_ent (show e_rok 206 [192, q, c] = true from decide_eq_true r_ref)]
          show e_tv E_C (E_V 206) e_t206_0 [192, q, c, 0, 0] M1 = _
          unfold e_t206_0
          simp [zq_a, zq_b, zq_c, zq_d, zq_e, zq_f, zq_g, zq_h, zq_i, zq_j, zq_k, zq_l, zq_m, zq_n, zq_o, zq_p, zq_q, zq_r, zq_s, zq_t, zq_u, zq_v, zq_w, zq_x, zq_y, zq_z, zq_A, zq_B, zq_C, zq_D, zq_E, zq_F, zq_G, zq_H, zq_I, zq_J, zq_K, zq_L, ↓zq_M, ↓zq_N, ↓zq_O, ↓zq_P, ↓zq_Q, ↓zq_R, zq_S, zq_T, zq_U, zq_V, zq_W, zq_X, zq_Y, zq_Z, zq_0, zq_1, zq_2, zq_3, zq_4, zq_5, ↓zq_6, ↓zq_7, ↓zq_8, ↓zq_9, ↓zq_aa, zq_ab, zq_ac, zq_ad, zq_ae, zq_af, zq_ag, ↓zq_ah, ↓zq_ai, ↓zq_aj, zq_ak, ↓zq_al, ↓zq_am, e_b1, e_b2, x_o1, x_o2, r_F10, r_P10, ip, iw, hA, a10, kk, j1, k1, k2]
        · rw [r_ent (show e_rok 206 [192, q, c] = true from decide_eq_true r_ref)]
          show e_tv E_C (E_V 206) e_t206_0 [192, q, c, 0, 0] M1 = _
          unfold e_t206_0
          simp [zq_a, zq_b, zq_c, zq_d, zq_e, zq_f, zq_g, zq_h, zq_i, zq_j, zq_k, zq_l, zq_m, zq_n, zq_o, zq_p, zq_q, zq_r, zq_s, zq_t, zq_u, zq_v, zq_w, zq_x, zq_y, zq_z, zq_A, zq_B, zq_C, zq_D, zq_E, zq_F, zq_G, zq_H, zq_I, zq_J, zq_K, zq_L, ↓zq_M, ↓zq_N, ↓zq_O, ↓zq_P, ↓zq_Q, ↓zq_R, zq_S, zq_T, zq_U, zq_V, zq_W, zq_X, zq_Y, zq_Z, zq_0, zq_1, zq_2, zq_3, zq_4, zq_5, ↓zq_6, ↓zq_7, ↓zq_8, ↓zq_9, ↓zq_aa, zq_ab, zq_ac, zq_ad, zq_ae, zq_af, zq_ag, ↓zq_ah, ↓zq_ai, ↓zq_aj, zq_ak, ↓zq_al, ↓zq_am, e_b1, e_b2, x_o1, x_o2, r_F10, r_P10, ip, iw, hA, a10, kk, k1, k2, k3]
      · rw [j1] at kk
        rcases f3 with ⟨k1, k2⟩ | ⟨k1, B, k2, k3⟩
        · rw [r_ent (show e_rok 206 [192, p, c] = true from decide_eq_true r_ref)]
          show e_tv E_C (E_V 206) e_t206_0 [192, p, c, 0, 0] M1 = _
          unfold e_t206_0
          simp [zq_a, zq_b, zq_c, zq_d, zq_e, zq_f, zq_g, zq_h, zq_i, zq_j, zq_k, zq_l, zq_m, zq_n, zq_o, zq_p, zq_q, zq_r, zq_s, zq_t, zq_u, zq_v, zq_w, zq_x, zq_y, zq_z, zq_A, zq_B, zq_C, zq_D, zq_E, zq_F, zq_G, zq_H, zq_I, zq_J, zq_K, zq_L, ↓zq_M, ↓zq_N, ↓zq_O, ↓zq_P, ↓zq_Q, ↓zq_R, zq_S, zq_T, zq_U, zq_V, zq_W, zq_X, zq_Y, zq_Z, zq_0, zq_1, zq_2, zq_3, zq_4, zq_5, ↓zq_6, ↓zq_7, ↓zq_8, ↓zq_9, ↓zq_aa, zq_ab, zq_ac, zq_ad, zq_ae, zq_af, zq_ag, ↓zq_ah, ↓zq_ai, ↓zq_aj, zq_ak, ↓zq_al, ↓zq_am, e_b1, e_b2, x_o1, x_o2, r_F10, r_P10, ip, iw, hA, a10, kk, j2, kq, k1, k2]
        · rw [k1] at kq
          rw [r_ent (show e_rok 206 [192, p, c] = true from decide_eq_true r_ref)]
          show e_tv E_C (E_V 206) e_t206_0 [192, p, c, 0, 0] M1 = _
          unfold e_t206_0
          simp [zq_a, zq_b, zq_c, zq_d, zq_e, zq_f, zq_g, zq_h, zq_i, zq_j, zq_k, zq_l, zq_m, zq_n, zq_o, zq_p, zq_q, zq_r, zq_s, zq_t, zq_u, zq_v, zq_w, zq_x, zq_y, zq_z, zq_A, zq_B, zq_C, zq_D, zq_E, zq_F, zq_G, zq_H, zq_I, zq_J, zq_K, zq_L, ↓zq_M, ↓zq_N, ↓zq_O, ↓zq_P, ↓zq_Q, ↓zq_R, zq_S, zq_T, zq_U, zq_V, zq_W, zq_X, zq_Y, zq_Z, zq_0, zq_1, zq_2, zq_3, zq_4, zq_5, ↓zq_6, ↓zq_7, ↓zq_8, ↓zq_9, ↓zq_aa, zq_ab, zq_ac, zq_ad, zq_ae, zq_af, zq_ag, ↓zq_ah, ↓zq_ai, ↓zq_aj, zq_ak, ↓zq_al, ↓zq_am, e_b1, e_b2, x_o1, x_o2, r_F10, r_P10, ip, iw, hA, a10, kk, j2, kq, k2, k3]
    · have iw := r_in0 (M := M1) cw
      have z10 : (e_up M1 192 10 1) 192 10 = 1 := c_up_s
      refine ⟨0, e_up M1 192 10 1, ?_, fun h => absurd h.2 cw, fun _ => z10, fun k => c_up_n (by omega)⟩
      rw [r_ent (show e_rok 206 [192, p, c] = true from decide_eq_true r_ref)]
      show e_tv E_C (E_V 206) e_t206_0 [192, p, c, 0, 0] M1 = _
      unfold e_t206_0
      simp [zq_a, zq_b, zq_c, zq_d, zq_e, zq_f, zq_g, zq_h, zq_i, zq_j, zq_k, zq_l, zq_m, zq_n, zq_o, zq_p, zq_q, zq_r, zq_s, zq_t, zq_u, zq_v, zq_w, zq_x, zq_y, zq_z, zq_A, zq_B, zq_C, zq_D, zq_E, zq_F, zq_G, zq_H, zq_I, zq_J, zq_K, zq_L, ↓zq_M, ↓zq_N, ↓zq_O, ↓zq_P, ↓zq_Q, ↓zq_R, zq_S, zq_T, zq_U, zq_V, zq_W, zq_X, zq_Y, zq_Z, zq_0, zq_1, zq_2, zq_3, zq_4, zq_5, ↓zq_6, ↓zq_7, ↓zq_8, ↓zq_9, ↓zq_aa, zq_ab, zq_ac, zq_ad, zq_ae, zq_af, zq_ag, ↓zq_ah, ↓zq_ai, ↓zq_aj, zq_ak, ↓zq_al, ↓zq_am, e_b1, e_b2, x_o1, x_o2, r_F10, r_P10, ip, iw, z10]
  · have ip := r_ip0 hW (show ¬ (0 ≤ p ∧ p < r_G M1 1198) by rw [hG]; exact e)
    have z10 : (e_up M1 192 10 1) 192 10 = 1 := c_up_s
    refine ⟨0, e_up M1 192 10 1, ?_, fun h => absurd h.1 e, fun _ => z10, fun k => c_up_n (by omega)⟩
    rw [r_ent (show e_rok 206 [192, p, c] = true from decide_eq_true r_ref)]
    show e_tv E_C (E_V 206) e_t206_0 [192, p, c, 0, 0] M1 = _
    unfold e_t206_0
    simp [zq_a, zq_b, zq_c, zq_d, zq_e, zq_f, zq_g, zq_h, zq_i, zq_j, zq_k, zq_l, zq_m, zq_n, zq_o, zq_p, zq_q, zq_r, zq_s, zq_t, zq_u, zq_v, zq_w, zq_x, zq_y, zq_z, zq_A, zq_B, zq_C, zq_D, zq_E, zq_F, zq_G, zq_H, zq_I, zq_J, zq_K, zq_L, ↓zq_M, ↓zq_N, ↓zq_O, ↓zq_P, ↓zq_Q, ↓zq_R, zq_S, zq_T, zq_U, zq_V, zq_W, zq_X, zq_Y, zq_Z, zq_0, zq_1, zq_2, zq_3, zq_4, zq_5, ↓zq_6, ↓zq_7, ↓zq_8, ↓zq_9, ↓zq_aa, zq_ab, zq_ac, zq_ad, zq_ae, zq_af, zq_ag, ↓zq_ah, ↓zq_ai, ↓zq_aj, zq_ak, ↓zq_al, ↓zq_am, e_b1, e_b2, x_o1, x_o2, r_F10, r_P10, ip, z10]
theorem ax_push (h : hd_all M) (J1 : r_J M1) (K1 : rx_K M1) (hfr : ∀ i, M1 193 i = M 193 i) (k1 : E_C 271 [8, p, c, 213] M = some (r1, M1)) (k2 : E_C 206 [192, p, c] M1 = some (r2, M2)) : M2 192 10 = r1 ∧ (r1 = 1 ∨ (r1 = 0 ∧ M2 213 0 = r2)) := by
  have eG : r_G M1 = r_G M := funext fun i => hfr _
  obtain ⟨r, M', b1, b2, b3, b4⟩ := ax_206 (p := p) (c := c) eG J1 K1 (hd_cs_of h.2.1) (hd_cvs_of h.2.2.1)
  obtain ⟨f1, f2⟩ := Prod.mk.inj (Option.some.inj (k2.symm.trans b1))
  by_cases q : ax_Uq p c (r_G M 1198)
  · obtain ⟨N, a1⟩ := ax_271a h q
    obtain ⟨e1, e2⟩ := Prod.mk.inj (Option.some.inj (k1.symm.trans a1))
    obtain ⟨b2, b5⟩ := b2 q
    refine ⟨by rw [f2, b5, e1], Or.inr ⟨e1, ?_⟩⟩
    rw [f2, b4, e2, c_up_s, f1, b2]
  · have a1 := ax_271b h q
    obtain ⟨e1, e2⟩ := Prod.mk.inj (Option.some.inj (k1.symm.trans a1))
    exact ⟨by rw [f2, b3 q, e1], Or.inl e1⟩
end PU
end
section
/-! what the reference calls thrown; what the law's row holds -/
theorem t_275 {M : EM} : E_C 275 [192] M = some (M 192 10, M) := by
  rw [r_ent (show e_rok 275 [192] = true from decide_eq_true r_ref)]
  show e_tv E_C (E_V 275) e_t275_0 [192] M = _
  unfold e_t275_0
  simp [zq_a, zq_b, zq_c, zq_d, zq_e, zq_f, zq_g, zq_h, zq_i, zq_j, zq_k, zq_l, zq_m, zq_n, zq_o, zq_p, zq_q, zq_r, zq_s, zq_t, zq_u, zq_v, zq_w, zq_x, zq_y, zq_z, zq_A, zq_B, zq_C, zq_D, zq_E, zq_F, zq_G, zq_H, zq_I, zq_J, zq_K, zq_L, ↓zq_M, ↓zq_N, ↓zq_O, ↓zq_P, ↓zq_Q, ↓zq_R, zq_S, zq_T, zq_U, zq_V, zq_W, zq_X, zq_Y, zq_Z, zq_0, zq_1, zq_2, zq_3, zq_4, zq_5, ↓zq_6, ↓zq_7, ↓zq_8, ↓zq_9, ↓zq_aa, zq_ab, zq_ac, zq_ad, zq_ae, zq_af, zq_ag, ↓zq_ah, ↓zq_ai, ↓zq_aj, zq_ak, ↓zq_al, ↓zq_am, e_b1, e_b2, x_o1, x_o2, r_F10]
theorem t_213 (M : EM) : e_op 61 [213, 0] M = some (M 213 0) := by
  have hz : e_sz M 213 = 1 := by
    unfold e_sz
    rw [if_neg (by decide)]
    decide +kernel
  have c : e_in2 M 101 213 0 := by
    refine ⟨by decide, by decide +kernel, by decide +kernel, by decide, ?_⟩
    show 0 < e_sz M 213
    rw [hz]
    decide
  have e : (if e_in2 M 101 213 0 then some (M (213 : Int).toNat (0 : Int).toNat) else none) = some (M (213 : Int).toNat (0 : Int).toNat) := if_pos c
  exact e
theorem t_frw {W : AW} {M M1 : EM} (h : a_fr W M M1) {id : Nat} (hW : (W.all fun w => decide (w.1 ≠ id)) = true) (k : Nat) : M1 id k = M id k := h id k (fun w hw hc => by
  have h := List.all_eq_true.mp hW w hw
  simp only [decide_eq_true_eq] at h
  omega)
end
