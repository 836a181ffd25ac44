section
/-! fits, look: the two answers -/
def h_Y (M : EM) : Prop := ∀ m i : Nat, m < 8 → i < 120 → M 195 m = 2 → M 196 m = 0 → -128 ≤ M 198 (120 * m + i) ∧ M 198 (120 * m + i) ≤ 127
def ft_w (M : EM) (p d : Int) : Int := if 0 ≤ p ∧ p < r_G M 1198 then (if h_no M d 0 = 0 then (if (M 197 d.toNat).tmod 2 = 0 ∧ M 197 d.toNat ≤ 40 then 0 else -13) else h_no M d 0) else -1
theorem ft_w0 {M : EM} {p d : Int} (hJ : r_J M) (h : ft_w M p d = 0) : (0 ≤ p ∧ p < r_G M 1198) ∧ ∃ m s : Nat, d = m ∧ m < 8 ∧ M 195 m = 2 ∧ M 196 m = 0 ∧ M 197 m = ((2 * s : Nat) : Int) ∧ s ≤ 20 := by
  unfold ft_w at h
  by_cases c : 0 ≤ p ∧ p < r_G M 1198
  · rw [if_pos c] at h
    refine ⟨c, ?_⟩
    by_cases z : h_no M d 0 = 0
    · rw [if_pos z] at h
      have z' := z
      unfold h_no at z'
      by_cases hd : 0 ≤ d ∧ d < 8
      · rw [if_pos hd] at z'
        obtain ⟨m, hm⟩ : ∃ m : Nat, d = m := ⟨d.toNat, by omega⟩
        rw [hm, Int.toNat_natCast] at z' h
        have m8 : m < 8 := by omega
        have sz := hJ.2.1 m m8
        by_cases a0 : M 195 m = 0
        · rw [if_pos a0] at z'; exact absurd z' (by decide)
        · rw [if_neg a0] at z'
          by_cases a2 : M 195 m = 2 ∧ ((0 : Int) = -1 ∨ 0 = M 196 m)
          · have hs : M 196 m = 0 := by
              rcases a2.2 with e | e
              · exact absurd e (by decide)
              · exact e.symm
            by_cases t : (M 197 m).tmod 2 = 0 ∧ M 197 m ≤ 40
            · obtain ⟨t1, t2⟩ := t
              rw [Int.tmod_eq_emod_of_nonneg (by omega)] at t1
              exact ⟨m, (M 197 m).toNat / 2, hm, m8, a2.1, hs, by omega, by omega⟩
            · rw [if_neg t] at h; exact absurd h (by decide)
          · rw [if_neg a2] at z'; exact absurd z' (by decide)
      · rw [if_neg hd] at z'; exact absurd z' (by decide)
    · rw [if_neg z] at h; exact absurd h z
  · rw [if_neg c] at h; exact absurd h (by decide)
section AXF
variable {M M1 M2 : EM} {p d i r1 r2 : Int}
theorem ax_164s : E_C 164 [8, p, d] M = e_tv E_C (E_V 164) e_t164_0 [8, p, d, 0, 0] M := r_ent (u := 164) (as := [8, p, d]) (M := M) (decide_eq_true c_this)
theorem ax_164n (h : hd_all M) (hS : h_S M) (hJ : r_J M) (hw : ft_w M p d ≠ 0) : E_C 164 [8, p, d] M = some (ft_w M p d, M) := by
  have h10 : M 10 0 = r_G M 1198 := h.1.1
  have ip := h_149 (k := p) (M := M)
  rw [h10] at ip
  rw [ax_164s]
  unfold e_t164_0
  by_cases hd : 0 ≤ d ∧ d < 8
  · obtain ⟨c0, c1⟩ := h_ref (w := 0) hS hd
    obtain ⟨m, hm⟩ : ∃ m : Nat, d = m := ⟨d.toNat, by omega⟩
    have m8 : m < 8 := by omega
    rw [show d.toNat = m by omega] at c0 c1
    have sz := hJ.2.1 m m8
    have hne : ¬ ((146 + 2 * m : Nat) : Int) = -1 := by omega
    by_cases c : 0 ≤ p ∧ p < r_G M 1198
    · rw [if_pos c] at ip
      have ew : ft_w M p d = if h_no M d 0 = 0 then (if (M 197 m).tmod 2 = 0 ∧ M 197 m ≤ 40 then 0 else -13) else h_no M d 0 := by
        unfold ft_w
        rw [if_pos c, show d.toNat = m by omega]
      by_cases z : h_no M d 0 = 0
      · have f5 := (h_sf (h_gr145 m8).2 M).2.2.2
        rw [Int.toNat_natCast] at f5
        have kept : M (146 + 2 * m) 5 = M 197 m := by
          have zz := z
          unfold h_no at zz
          rw [if_pos hd, show d.toNat = m by omega] at zz
          rcases hS m m8 with ⟨a, -⟩ | ⟨a, -⟩ | ⟨-, -, -, -, e5, -⟩
          · rw [if_pos a] at zz; exact absurd zz (by decide)
          · rw [if_neg (by omega), if_neg (by omega)] at zz; exact absurd zz (by decide)
          · exact e5
        rw [kept] at f5
        rw [z] at c1
        rw [if_pos z] at ew
        by_cases t : (M 197 m).tmod 2 = 0 ∧ M 197 m ≤ 40
        · rw [if_pos t] at ew; exact absurd ew hw
        · rw [if_neg t] at ew
          rw [ew]
          generalize M 197 m = n at *
          generalize ((146 + 2 * m : Nat) : Int) = x at *
          clear kept h hS hJ hw ew z
          by_cases t1 : n.tmod 2 = 0
          · have t2 : 40 < n := by
              rcases Classical.em (n ≤ 40) with y | y
              · exact absurd ⟨t1, y⟩ t
              · omega
            have t2n : ¬ n ≤ 40 := by omega
            simp [zq_a, zq_b, zq_c, zq_d, zq_e, zq_f, zq_g, zq_h, zq_i, zq_j, zq_k, zq_l, zq_m, zq_n, zq_o, zq_p, zq_q, zq_r, zq_s, zq_t, zq_u, zq_v, zq_w, zq_x, zq_y, zq_z, zq_A, zq_B, zq_C, zq_D, zq_E, zq_F, zq_G, zq_H, zq_I, zq_J, zq_K, zq_L, ↓zq_M, ↓zq_N, ↓zq_O, ↓zq_P, ↓zq_Q, ↓zq_R, zq_S, zq_T, zq_U, zq_V, zq_W, zq_X, zq_Y, zq_Z, zq_0, zq_1, zq_2, zq_3, zq_4, zq_5, ↓zq_6, ↓zq_7, ↓zq_8, ↓zq_9, ↓zq_aa, zq_ab, zq_ac, zq_ad, zq_ae, zq_af, zq_ag, ↓zq_ah, ↓zq_ai, ↓zq_aj, zq_ak, ↓zq_al, ↓zq_am, e_b1, e_b2, x_o1, x_o2, c0, ip, c1, hne, f5, t1, t2, t2n]
          · simp [zq_a, zq_b, zq_c, zq_d, zq_e, zq_f, zq_g, zq_h, zq_i, zq_j, zq_k, zq_l, zq_m, zq_n, zq_o, zq_p, zq_q, zq_r, zq_s, zq_t, zq_u, zq_v, zq_w, zq_x, zq_y, zq_z, zq_A, zq_B, zq_C, zq_D, zq_E, zq_F, zq_G, zq_H, zq_I, zq_J, zq_K, zq_L, ↓zq_M, ↓zq_N, ↓zq_O, ↓zq_P, ↓zq_Q, ↓zq_R, zq_S, zq_T, zq_U, zq_V, zq_W, zq_X, zq_Y, zq_Z, zq_0, zq_1, zq_2, zq_3, zq_4, zq_5, ↓zq_6, ↓zq_7, ↓zq_8, ↓zq_9, ↓zq_aa, zq_ab, zq_ac, zq_ad, zq_ae, zq_af, zq_ag, ↓zq_ah, ↓zq_ai, ↓zq_aj, zq_ak, ↓zq_al, ↓zq_am, e_b1, e_b2, x_o1, x_o2, c0, ip, c1, hne, f5, t1]
      · rw [if_neg z] at ew
        rw [ew]
        clear ew hw
        generalize h_no M d 0 = zz at *
        generalize ((146 + 2 * m : Nat) : Int) = x at *
        simp [zq_a, zq_b, zq_c, zq_d, zq_e, zq_f, zq_g, zq_h, zq_i, zq_j, zq_k, zq_l, zq_m, zq_n, zq_o, zq_p, zq_q, zq_r, zq_s, zq_t, zq_u, zq_v, zq_w, zq_x, zq_y, zq_z, zq_A, zq_B, zq_C, zq_D, zq_E, zq_F, zq_G, zq_H, zq_I, zq_J, zq_K, zq_L, ↓zq_M, ↓zq_N, ↓zq_O, ↓zq_P, ↓zq_Q, ↓zq_R, zq_S, zq_T, zq_U, zq_V, zq_W, zq_X, zq_Y, zq_Z, zq_0, zq_1, zq_2, zq_3, zq_4, zq_5, ↓zq_6, ↓zq_7, ↓zq_8, ↓zq_9, ↓zq_aa, zq_ab, zq_ac, zq_ad, zq_ae, zq_af, zq_ag, ↓zq_ah, ↓zq_ai, ↓zq_aj, zq_ak, ↓zq_al, ↓zq_am, e_b1, e_b2, x_o1, x_o2, c0, ip, c1, z]
    · rw [if_neg c] at ip
      have ew : ft_w M p d = -1 := if_neg c
      rw [ew]
      generalize ((146 + 2 * m : Nat) : Int) = x at *
      simp [zq_a, zq_b, zq_c, zq_d, zq_e, zq_f, zq_g, zq_h, zq_i, zq_j, zq_k, zq_l, zq_m, zq_n, zq_o, zq_p, zq_q, zq_r, zq_s, zq_t, zq_u, zq_v, zq_w, zq_x, zq_y, zq_z, zq_A, zq_B, zq_C, zq_D, zq_E, zq_F, zq_G, zq_H, zq_I, zq_J, zq_K, zq_L, ↓zq_M, ↓zq_N, ↓zq_O, ↓zq_P, ↓zq_Q, ↓zq_R, zq_S, zq_T, zq_U, zq_V, zq_W, zq_X, zq_Y, zq_Z, zq_0, zq_1, zq_2, zq_3, zq_4, zq_5, ↓zq_6, ↓zq_7, ↓zq_8, ↓zq_9, ↓zq_aa, zq_ab, zq_ac, zq_ad, zq_ae, zq_af, zq_ag, ↓zq_ah, ↓zq_ai, ↓zq_aj, zq_ak, ↓zq_al, ↓zq_am, e_b1, e_b2, x_o1, x_o2, c0, ip]
  · obtain ⟨c0, c1, c2⟩ := h_ref1 (M := M) (w := 0) hd
    by_cases c : 0 ≤ p ∧ p < r_G M 1198
    · rw [if_pos c] at ip
      have ew : ft_w M p d = -1 := by
        unfold ft_w
        rw [if_pos c, c2, if_neg (by decide)]
      rw [ew]
      simp [zq_a, zq_b, zq_c, zq_d, zq_e, zq_f, zq_g, zq_h, zq_i, zq_j, zq_k, zq_l, zq_m, zq_n, zq_o, zq_p, zq_q, zq_r, zq_s, zq_t, zq_u, zq_v, zq_w, zq_x, zq_y, zq_z, zq_A, zq_B, zq_C, zq_D, zq_E, zq_F, zq_G, zq_H, zq_I, zq_J, zq_K, zq_L, ↓zq_M, ↓zq_N, ↓zq_O, ↓zq_P, ↓zq_Q, ↓zq_R, zq_S, zq_T, zq_U, zq_V, zq_W, zq_X, zq_Y, zq_Z, zq_0, zq_1, zq_2, zq_3, zq_4, zq_5, ↓zq_6, ↓zq_7, ↓zq_8, ↓zq_9, ↓zq_aa, zq_ab, zq_ac, zq_ad, zq_ae, zq_af, zq_ag, ↓zq_ah, ↓zq_ai, ↓zq_aj, zq_ak, ↓zq_al, ↓zq_am, e_b1, e_b2, x_o1, x_o2, c0, ip, c1]
    · rw [if_neg c] at ip
      have ew : ft_w M p d = -1 := if_neg c
      rw [ew]
      simp [zq_a, zq_b, zq_c, zq_d, zq_e, zq_f, zq_g, zq_h, zq_i, zq_j, zq_k, zq_l, zq_m, zq_n, zq_o, zq_p, zq_q, zq_r, zq_s, zq_t, zq_u, zq_v, zq_w, zq_x, zq_y, zq_z, zq_A, zq_B, zq_C, zq_D, zq_E, zq_F, zq_G, zq_H, zq_I, zq_J, zq_K, zq_L, ↓zq_M, ↓zq_N, ↓zq_O, ↓zq_P, ↓zq_Q, ↓zq_R, zq_S, zq_T, zq_U, zq_V, zq_W, zq_X, zq_Y, zq_Z, zq_0, zq_1, zq_2, zq_3, zq_4, zq_5, ↓zq_6, ↓zq_7, ↓zq_8, ↓zq_9, ↓zq_aa, zq_ab, zq_ac, zq_ad, zq_ae, zq_af, zq_ag, ↓zq_ah, ↓zq_ai, ↓zq_aj, zq_ak, ↓zq_al, ↓zq_am, e_b1, e_b2, x_o1, x_o2, c0, ip]
theorem ax_164y {P m s : Nat} (h : hd_all M) (hS : h_S M) (hY : h_Y M) (hP : (P : Int) < r_G M 1198) (m8 : m < 8) (k2 : M 195 m = 2) (k0 : M 196 m = 0) (k7 : M 197 m = ((2 * s : Nat) : Int)) (s20 : s ≤ 20) {C D : Nat → Int} (HC : ∀ l k, l < cu_nl (r_G M) (cu_in (r_G M) (P : Int)) → k < bx_nc (r_G M) (cu_ln (r_G M) (cu_in (r_G M) (P : Int)) l) → C (bx_oc (r_G M) (cu_ln (r_G M) (cu_in (r_G M) (P : Int))) l + k) = bx_ce (r_G M) (cu_ln (r_G M) (cu_in (r_G M) (P : Int)) l) k) (HD : ∀ l (y : Nat), l < cu_nl (r_G M) (cu_in (r_G M) (P : Int)) → r_G M (28 * cu_ln (r_G M) (cu_in (r_G M) (P : Int)) l) ≠ 0 → y < (r_G M (28 * cu_ln (r_G M) (cu_in (r_G M) (P : Int)) l + 19)).toNat → ga_D (r_G M) (cu_ln (r_G M) (cu_in (r_G M) (P : Int)) l) y ≠ 0 → D (ga_od (r_G M) (cu_ln (r_G M) (cu_in (r_G M) (P : Int))) l + gd_n (ga_D (r_G M) (cu_ln (r_G M) (cu_in (r_G M) (P : Int)) l)) y) = 8 * cu_ln (r_G M) (cu_in (r_G M) (P : Int)) l + (y : Int)) : ∃ M', E_C 164 [8, (P : Int), (m : Int)] M = some (0, M') ∧ ft_R (ft_Q (fun i => M 198 (120 * m + i)) s (fq_F (r_G M) (P : Int) C D (ax_nc (r_G M) (P : Int)))) (fq_F (r_G M) (P : Int) C D (ax_nc (r_G M) (P : Int))) M' (1 + ax_nc (r_G M) (P : Int) + ax_nd (r_G M) (P : Int)) := by
  obtain ⟨N, k1, hX, hSP, hN, h7, e, h0⟩ := ax_1 h hP
  obtain ⟨y, hy, y1, y3⟩ := ft_inn h.2.2.1 hP
  have ij := ft_inj h.1.2.1.2 h.1 h.2.2.1 y1 y3
  rw [← hy] at ij
  obtain ⟨A, a1, a2, a3⟩ := bx_draw h.1.2.1.2 h.2.2.1 e hX.2.2.1 hN.1 hN.2.1 hN.2.2.1 hN.2.2.2.1 hN.2.2.2.2.1 hN.2.2.2.2.2
  have H : ft_H M N (r_G M) (cu_ln (r_G M) (cu_in (r_G M) (P : Int))) (cu_nl (r_G M) (cu_in (r_G M) (P : Int))) C D := ⟨h.1.2.1.2, h.2.2.1, h.2.1, hX, ij, hSP, hN, e, HC, HD⟩
  have hh := (h_gr145 m8).2
  have rw2 : M (146 + 2 * m) 5 = ((2 * s : Nat) : Int) ∧ ∀ i, i < 120 → M (147 + 2 * m) i = M 198 (120 * m + i) := by
    rcases hS m m8 with ⟨b1, -⟩ | ⟨b1, -⟩ | ⟨-, -, -, -, b5, b6⟩
    · omega
    · omega
    · exact ⟨b5.trans k7, b6⟩
  obtain ⟨B', k41, -, R⟩ := ft_41 (M := M) (N := N) H (s := ((146 + 2 * m : Nat) : Int)) (n := 2 * s) (m := s) (E := fun i => M 198 (120 * m + i)) (B0 := A) ⟨a2, fun id k i1 i2 i3 => a3 id k (by omega)⟩ hh (by rw [Int.toNat_natCast]; exact rw2.1) rfl (by omega) (fun i hi => by
    rw [show (((146 + 2 * m : Nat) : Int) + 1).toNat = 147 + 2 * m by omega]
    exact rw2.2 i (by omega)) (fun i hi => hY m i m8 (by omega) k2 k0)
  refine ⟨B', ?_, R⟩
  have h10 : M 10 0 = r_G M 1198 := h.1.1
  have ip := h_149 (k := (P : Int)) (M := M)
  rw [h10, if_pos ⟨by omega, hP⟩] at ip
  obtain ⟨c0, c1⟩ := h_ref (M := M) (d := (m : Int)) (w := 0) hS ⟨by omega, by omega⟩
  rw [Int.toNat_natCast] at c0 c1
  have z : h_no M (m : Int) 0 = 0 := by
    unfold h_no
    rw [if_pos ⟨by omega, by omega⟩, Int.toNat_natCast, if_neg (by omega), if_pos ⟨k2, Or.inr k0.symm⟩]
  rw [z] at c1
  have hne : ¬ ((146 + 2 * m : Nat) : Int) = -1 := by omega
  have f5 := (h_sf hh M).2.2.2
  rw [Int.toNat_natCast, rw2.1] at f5
  have tm : (((2 * s : Nat) : Int)).tmod 2 = 0 := by
    rw [Int.tmod_eq_emod_of_nonneg (by omega)]
    omega
  have t2 : ((2 * s : Nat) : Int) ≤ 40 := by omega
  have t2n : ¬ 40 < ((2 * s : Nat) : Int) := by omega
  rw [ax_164s]
  unfold e_t164_0
  clear R H HC HD hY hS hSP hN hX ij a2 a3 k7 rw2 e
  generalize ((146 + 2 * m : Nat) : Int) = x at *
  generalize ((2 * s : Nat) : Int) = n at *
  generalize (P : Int) = pp at *
  generalize (m : Int) = dd at *
  simp [zq_a, zq_b, zq_c, zq_d, zq_e, zq_f, zq_g, zq_h, zq_i, zq_j, zq_k, zq_l, zq_m, zq_n, zq_o, zq_p, zq_q, zq_r, zq_s, zq_t, zq_u, zq_v, zq_w, zq_x, zq_y, zq_z, zq_A, zq_B, zq_C, zq_D, zq_E, zq_F, zq_G, zq_H, zq_I, zq_J, zq_K, zq_L, ↓zq_M, ↓zq_N, ↓zq_O, ↓zq_P, ↓zq_Q, ↓zq_R, zq_S, zq_T, zq_U, zq_V, zq_W, zq_X, zq_Y, zq_Z, zq_0, zq_1, zq_2, zq_3, zq_4, zq_5, ↓zq_6, ↓zq_7, ↓zq_8, ↓zq_9, ↓zq_aa, zq_ab, zq_ac, zq_ad, zq_ae, zq_af, zq_ag, ↓zq_ah, ↓zq_ai, ↓zq_aj, zq_ak, ↓zq_al, ↓zq_am, e_b1, e_b2, x_o1, x_o2, ax_bench, dg_8, c0, ip, c1, hne, f5, tm, t2, t2n, k1, a1, k41]
theorem fq_251 (J1 : r_J M1) : E_C 251 [192, p, d] M1 = some (ft_w M1 p d, M1) := by
  have hW := (r_J_E J1).2.1
  unfold ft_w
  by_cases q0 : 0 ≤ p ∧ p < r_G M1 1198
  · have ip := r_ip1 hW q0
    have kn := h_189 (d := d) (w := 0) (M := M1) (by decide)
    rw [if_pos q0]
    by_cases q : h_no M1 d 0 = 0
    · rw [if_pos q]
      have hd : 0 ≤ d ∧ d < 8 := by
        rcases Classical.em (0 ≤ d ∧ d < 8) with y | y
        · exact y
        · unfold h_no at q
          rw [if_neg y] at q
          exact absurd q (by decide)
      rw [q] at kn
      have ls := (r_isD d M1 ⟨hd.1, by omega⟩).2.2.1
      have sz := J1.2.1 d.toNat (by omega)
      generalize M1 197 d.toNat = n at *
      have em : n.tmod 2 = 0 ∨ n.tmod 2 = 1 := by
        rw [Int.tmod_eq_emod_of_nonneg (by omega)]
        omega
      clear sz
      rcases em with c1 | c1
      · rcases x_lt 40 n with ⟨c2, c2_n⟩ | ⟨c2, c2_n⟩
        · have c2' : ¬ n ≤ 40 := by omega
          rw [if_neg (fun e => c2' e.2)]
          rw [r_ent (show e_rok 251 [192, p, d] = true from decide_eq_true r_ref)]
          show e_tv E_C (E_V 251) e_t251_0 [192, p, d, 0] M1 = _
          unfold e_t251_0
          simp [zq_a, zq_b, zq_c, zq_d, zq_e, zq_f, zq_g, zq_h, zq_i, zq_j, zq_k, zq_l, zq_m, zq_n, zq_o, zq_p, zq_q, zq_r, zq_s, zq_t, zq_u, zq_v, zq_w, zq_x, zq_y, zq_z, zq_A, zq_B, zq_C, zq_D, zq_E, zq_F, zq_G, zq_H, zq_I, zq_J, zq_K, zq_L, ↓zq_M, ↓zq_N, ↓zq_O, ↓zq_P, ↓zq_Q, ↓zq_R, zq_S, zq_T, zq_U, zq_V, zq_W, zq_X, zq_Y, zq_Z, zq_0, zq_1, zq_2, zq_3, zq_4, zq_5, ↓zq_6, ↓zq_7, ↓zq_8, ↓zq_9, ↓zq_aa, zq_ab, zq_ac, zq_ad, zq_ae, zq_af, zq_ag, ↓zq_ah, ↓zq_ai, ↓zq_aj, zq_ak, ↓zq_al, ↓zq_am, e_b1, e_b2, x_o1, x_o2, r_O4, ip, kn, ls, c1, c2, c2_n, c2']
        · have c2' : n ≤ 40 := by omega
          rw [if_pos ⟨c1, c2'⟩]
          rw [r_ent (show e_rok 251 [192, p, d] = true from decide_eq_true r_ref)]
          show e_tv E_C (E_V 251) e_t251_0 [192, p, d, 0] M1 = _
          unfold e_t251_0
          simp [zq_a, zq_b, zq_c, zq_d, zq_e, zq_f, zq_g, zq_h, zq_i, zq_j, zq_k, zq_l, zq_m, zq_n, zq_o, zq_p, zq_q, zq_r, zq_s, zq_t, zq_u, zq_v, zq_w, zq_x, zq_y, zq_z, zq_A, zq_B, zq_C, zq_D, zq_E, zq_F, zq_G, zq_H, zq_I, zq_J, zq_K, zq_L, ↓zq_M, ↓zq_N, ↓zq_O, ↓zq_P, ↓zq_Q, ↓zq_R, zq_S, zq_T, zq_U, zq_V, zq_W, zq_X, zq_Y, zq_Z, zq_0, zq_1, zq_2, zq_3, zq_4, zq_5, ↓zq_6, ↓zq_7, ↓zq_8, ↓zq_9, ↓zq_aa, zq_ab, zq_ac, zq_ad, zq_ae, zq_af, zq_ag, ↓zq_ah, ↓zq_ai, ↓zq_aj, zq_ak, ↓zq_al, ↓zq_am, e_b1, e_b2, x_o1, x_o2, r_O4, ip, kn, ls, c1, c2, c2_n, c2']
      · rw [if_neg (fun e => by have := e.1; omega)]
        rw [r_ent (show e_rok 251 [192, p, d] = true from decide_eq_true r_ref)]
        show e_tv E_C (E_V 251) e_t251_0 [192, p, d, 0] M1 = _
        unfold e_t251_0
        simp [zq_a, zq_b, zq_c, zq_d, zq_e, zq_f, zq_g, zq_h, zq_i, zq_j, zq_k, zq_l, zq_m, zq_n, zq_o, zq_p, zq_q, zq_r, zq_s, zq_t, zq_u, zq_v, zq_w, zq_x, zq_y, zq_z, zq_A, zq_B, zq_C, zq_D, zq_E, zq_F, zq_G, zq_H, zq_I, zq_J, zq_K, zq_L, ↓zq_M, ↓zq_N, ↓zq_O, ↓zq_P, ↓zq_Q, ↓zq_R, zq_S, zq_T, zq_U, zq_V, zq_W, zq_X, zq_Y, zq_Z, zq_0, zq_1, zq_2, zq_3, zq_4, zq_5, ↓zq_6, ↓zq_7, ↓zq_8, ↓zq_9, ↓zq_aa, zq_ab, zq_ac, zq_ad, zq_ae, zq_af, zq_ag, ↓zq_ah, ↓zq_ai, ↓zq_aj, zq_ak, ↓zq_al, ↓zq_am, e_b1, e_b2, x_o1, x_o2, r_O4, ip, kn, ls, c1]
    · rw [if_neg q]
      generalize h_no M1 d 0 = z at *
      rw [r_ent (show e_rok 251 [192, p, d] = true from decide_eq_true r_ref)]
      show e_tv E_C (E_V 251) e_t251_0 [192, p, d, 0] M1 = _
      unfold e_t251_0
      simp [zq_a, zq_b, zq_c, zq_d, zq_e, zq_f, zq_g, zq_h, zq_i, zq_j, zq_k, zq_l, zq_m, zq_n, zq_o, zq_p, zq_q, zq_r, zq_s, zq_t, zq_u, zq_v, zq_w, zq_x, zq_y, zq_z, zq_A, zq_B, zq_C, zq_D, zq_E, zq_F, zq_G, zq_H, zq_I, zq_J, zq_K, zq_L, ↓zq_M, ↓zq_N, ↓zq_O, ↓zq_P, ↓zq_Q, ↓zq_R, zq_S, zq_T, zq_U, zq_V, zq_W, zq_X, zq_Y, zq_Z, zq_0, zq_1, zq_2, zq_3, zq_4, zq_5, ↓zq_6, ↓zq_7, ↓zq_8, ↓zq_9, ↓zq_aa, zq_ab, zq_ac, zq_ad, zq_ae, zq_af, zq_ag, ↓zq_ah, ↓zq_ai, ↓zq_aj, zq_ak, ↓zq_al, ↓zq_am, e_b1, e_b2, x_o1, x_o2, ip, kn, q]
  · have ip := r_ip0 hW q0
    rw [if_neg q0]
    rw [r_ent (show e_rok 251 [192, p, d] = true from decide_eq_true r_ref)]
    show e_tv E_C (E_V 251) e_t251_0 [192, p, d, 0] M1 = _
    unfold e_t251_0
    simp [zq_a, zq_b, zq_c, zq_d, zq_e, zq_f, zq_g, zq_h, zq_i, zq_j, zq_k, zq_l, zq_m, zq_n, zq_o, zq_p, zq_q, zq_r, zq_s, zq_t, zq_u, zq_v, zq_w, zq_x, zq_y, zq_z, zq_A, zq_B, zq_C, zq_D, zq_E, zq_F, zq_G, zq_H, zq_I, zq_J, zq_K, zq_L, ↓zq_M, ↓zq_N, ↓zq_O, ↓zq_P, ↓zq_Q, ↓zq_R, zq_S, zq_T, zq_U, zq_V, zq_W, zq_X, zq_Y, zq_Z, zq_0, zq_1, zq_2, zq_3, zq_4, zq_5, ↓zq_6, ↓zq_7, ↓zq_8, ↓zq_9, ↓zq_aa, zq_ab, zq_ac, zq_ad, zq_ae, zq_af, zq_ag, ↓zq_ah, ↓zq_ai, ↓zq_aj, zq_ak, ↓zq_al, ↓zq_am, e_b1, e_b2, x_o1, x_o2, ip]
theorem ft_w_cg (hfr : ∀ id i, 192 ≤ id → M1 id i = M id i) : ft_w M1 p d = ft_w M p d := by
  unfold ft_w h_no r_G
  rw [hfr 193 _ (by decide), hfr 195 _ (by decide), hfr 196 _ (by decide), hfr 197 _ (by decide)]
/-- the reference gathers: what the loops need -/
theorem fq_all {g : Int → Int} {P m s : Nat} (hG : r_G M1 = g) (J1 : r_J M1) (K1 : rx_K M1) (hcs : hd_cs g) (hcv : hd_cvs g) (hP : (P : Int) < g 1198) (hcap : ax_nc g (P : Int) ≤ 40 ∧ ax_nd g (P : Int) ≤ 40) (m8 : m < 8) (k7 : M1 197 m = ((2 * s : Nat) : Int)) (s20 : s ≤ 20) : ∃ A, E_C 175 [192, (P : Int)] M1 = some (0, A) ∧ fq_G g (fun j => A 202 j) (fun j => A 203 j) (ax_nc g (P : Int)) (ax_nd g (P : Int)) A ∧ (∀ l k, l < cu_nl g (cu_in g (P : Int)) → k < bx_nc g (cu_ln g (cu_in g (P : Int)) l) → A 202 (bx_oc g (cu_ln g (cu_in g (P : Int))) l + k) = bx_ce g (cu_ln g (cu_in g (P : Int)) l) k) ∧ (∀ l (y : Nat), l < cu_nl g (cu_in g (P : Int)) → g (28 * cu_ln g (cu_in g (P : Int)) l) ≠ 0 → y < (g (28 * cu_ln g (cu_in g (P : Int)) l + 19)).toNat → ga_D g (cu_ln g (cu_in g (P : Int)) l) y ≠ 0 → A 203 (ga_od g (cu_ln g (cu_in g (P : Int))) l + gd_n (ga_D g (cu_ln g (cu_in g (P : Int)) l)) y) = 8 * cu_ln g (cu_in g (P : Int)) l + (y : Int)) ∧ ∀ (K' : EM), (∀ id k, id ≠ 205 → id ≠ 206 → id ≠ 212 → K' id k = A id k) → ∀ (f : Nat) (k : Int), k = f → f < 1 + ax_nc g (P : Int) + ax_nd g (P : Int) → E_C 252 [192, (P : Int), (m : Int), k] K' = some (ft_Q (fun i => M1 198 (120 * m + i)) s (fq_F g (P : Int) (fun j => A 202 j) (fun j => A 203 j) (ax_nc g (P : Int))) f, K') ∧ E_C 249 [192, k] K' = some (0, ft_T K' (ft_dc (fun j => A 202 j) (ax_nc g (P : Int)) f) (ft_br (fun j => A 203 j) (ax_nc g (P : Int)) f)) ∧ ∃ K2, E_C 203 [192, (P : Int)] (ft_T K' (ft_dc (fun j => A 202 j) (ax_nc g (P : Int)) f) (ft_br (fun j => A 203 j) (ax_nc g (P : Int)) f)) = some (0, K2) ∧ rx_sm (ft_T K' (ft_dc (fun j => A 202 j) (ax_nc g (P : Int)) f) (ft_br (fun j => A 203 j) (ax_nc g (P : Int)) f)) K2 ∧ ∀ u : Nat, u < 1000 → K2 205 u = fq_F g (P : Int) (fun j => A 202 j) (fun j => A 203 j) (ax_nc g (P : Int)) f (u : Int) := by
  have hW : r_W g := by rw [← hG]; exact (r_J_E J1).2.1
  obtain ⟨A, kA, b1, b2, b3, b4, b5⟩ := ax_g hG J1 (p := (P : Int)) ⟨by omega, hP⟩ hcap
  have h20 : M1 192 20 = -1 := J1.2.2.2.2
  have GA : fq_G g (fun j => A 202 j) (fun j => A 203 j) (ax_nc g (P : Int)) (ax_nd g (P : Int)) A := ⟨(funext fun i => b5 _ _ (by decide) (by decide) (by omega)).trans hG, ⟨(b5 _ _ (by decide) (by decide) (by omega)).trans K1.1, (b5 _ _ (by decide) (by decide) (by omega)).trans K1.2.1, (b5 _ _ (by decide) (by decide) (by omega)).trans K1.2.2⟩, (b5 _ _ (by decide) (by decide) (by omega)).trans h20, b1, b2, fun _ => rfl, fun _ => rfl⟩
  refine ⟨A, kA, GA, b3, b4, fun K' hf f k hk hfl => ?_⟩
  have G' := fq_G_cg GA hf
  refine ⟨fq_252 G' hcap.1 hcap.2 hW hcs hcv ⟨by omega, hP⟩ rfl m8 (n := 2 * s) ((hf _ _ (by decide) (by decide) (by decide)).trans ((b5 _ _ (by decide) (by decide) (by omega)).trans k7)) rfl (by omega) (fun i hi => (hf _ _ (by decide) (by decide) (by decide)).trans (b5 _ _ (by decide) (by decide) (by omega))) hk hfl, fq_249 G' hcap.1 hcap.2 hk hfl, ?_⟩
  obtain ⟨K2, kg, sm, h5⟩ := rx_gives (b := g 1198) (ft_T_G.trans G'.1) (fq_MD (a := ft_dc (fun j => A 202 j) (ax_nc g (P : Int)) f) (b := ft_br (fun j => A 203 j) (ax_nc g (P : Int)) f) G' hcs) hcv hW.2.1 (Int.le_refl _) (hW.2.2.1 (P : Int) (by omega) hP)
  exact ⟨K2, kg, sm, h5⟩
theorem ax_fits (h : hd_all M) (hS : h_S M) (hY : h_Y M) (hJ : r_J M) (J1 : r_J M1) (K1 : rx_K M1) (hfr : ∀ id i, 192 ≤ id → M1 id i = M id i) (k1 : E_C 134 [8, p, d, i] M = some (r1, M1)) (k2 : E_C 253 [192, p, d, i] M1 = some (r2, M2)) : r1 = r2 := by
  have s1 : E_C 134 [8, p, d, i] M = e_tv E_C (E_V 134) e_t134_0 [8, p, d, i, 0] M := r_ent (u := 134) (as := [8, p, d, i]) (M := M) (decide_eq_true c_this)
  have s2 : E_C 253 [192, p, d, i] M1 = e_tv E_C (E_V 253) e_t253_0 [192, p, d, i, 0, 0, 0] M1 := r_ent (u := 253) (as := [192, p, d, i]) (M := M1) (decide_eq_true r_ref)
  rcases x_lt i (-1) with ⟨c, c_n⟩ | ⟨c, c_n⟩
  · have a1 : E_C 134 [8, p, d, i] M = some (-1, M) := by
      rw [s1]
      unfold e_t134_0
      simp [zq_a, zq_b, zq_c, zq_d, zq_e, zq_f, zq_g, zq_h, zq_i, zq_j, zq_k, zq_l, zq_m, zq_n, zq_o, zq_p, zq_q, zq_r, zq_s, zq_t, zq_u, zq_v, zq_w, zq_x, zq_y, zq_z, zq_A, zq_B, zq_C, zq_D, zq_E, zq_F, zq_G, zq_H, zq_I, zq_J, zq_K, zq_L, ↓zq_M, ↓zq_N, ↓zq_O, ↓zq_P, ↓zq_Q, ↓zq_R, zq_S, zq_T, zq_U, zq_V, zq_W, zq_X, zq_Y, zq_Z, zq_0, zq_1, zq_2, zq_3, zq_4, zq_5, ↓zq_6, ↓zq_7, ↓zq_8, ↓zq_9, ↓zq_aa, zq_ab, zq_ac, zq_ad, zq_ae, zq_af, zq_ag, ↓zq_ah, ↓zq_ai, ↓zq_aj, zq_ak, ↓zq_al, ↓zq_am, e_b1, e_b2, x_o1, x_o2, c, c_n]
    have a2 : E_C 253 [192, p, d, i] M1 = some (-1, M1) := by
      rw [s2]
      unfold e_t253_0
      simp [zq_a, zq_b, zq_c, zq_d, zq_e, zq_f, zq_g, zq_h, zq_i, zq_j, zq_k, zq_l, zq_m, zq_n, zq_o, zq_p, zq_q, zq_r, zq_s, zq_t, zq_u, zq_v, zq_w, zq_x, zq_y, zq_z, zq_A, zq_B, zq_C, zq_D, zq_E, zq_F, zq_G, zq_H, zq_I, zq_J, zq_K, zq_L, ↓zq_M, ↓zq_N, ↓zq_O, ↓zq_P, ↓zq_Q, ↓zq_R, zq_S, zq_T, zq_U, zq_V, zq_W, zq_X, zq_Y, zq_Z, zq_0, zq_1, zq_2, zq_3, zq_4, zq_5, ↓zq_6, ↓zq_7, ↓zq_8, ↓zq_9, ↓zq_aa, zq_ab, zq_ac, zq_ad, zq_ae, zq_af, zq_ag, ↓zq_ah, ↓zq_ai, ↓zq_aj, zq_ak, ↓zq_al, ↓zq_am, e_b1, e_b2, x_o1, x_o2, c, c_n]
    rw [(Prod.mk.inj (Option.some.inj (k1.symm.trans a1))).1, (Prod.mk.inj (Option.some.inj (k2.symm.trans a2))).1]
  · have kw := fq_251 (p := p) (d := d) J1
    rw [ft_w_cg hfr] at kw
    by_cases w : ft_w M p d = 0
    · obtain ⟨⟨p0, p1⟩, m, s, hm, m8, e2, e0, e7, s20⟩ := ft_w0 hJ w
      obtain ⟨P, rfl⟩ : ∃ P : Nat, p = P := ⟨p.toNat, by omega⟩
      subst hm
      have cap := (ax_cap h (P : Int)).resolve_right (fun e => e ⟨p0, p1⟩)
      have eG : r_G M1 = r_G M := funext fun i => hfr _ _ (by decide)
      obtain ⟨A, kA, GA, HC, HD, kk⟩ := fq_all (P := P) (m := m) (s := s) eG J1 K1 (hd_cs_of h.2.1) (hd_cvs_of h.2.2.1) p1 cap m8 ((hfr _ _ (by decide)).trans e7) s20
      obtain ⟨M', k164, R⟩ := ax_164y h hS hY p1 m8 e2 e0 e7 s20 (C := fun j => A 202 j) (D := fun j => A 203 j) HC HD
      have k44 := ft_44 (i := i) R (by omega)
      have k253 := fq_253 (dI := (m : Int)) (i := i) GA cap.1 cap.2 (fun f k hk hf => (kk A (fun _ _ _ _ _ => rfl) f k hk hf).1) (by omega)
      rw [show (fun i => M1 198 (120 * m + i)) = (fun i => M 198 (120 * m + i)) from funext fun i => hfr _ _ (by decide)] at k253
      rw [w] at kw
      generalize ft_r (ft_Q (fun i => M 198 (120 * m + i)) s (fq_F (r_G M) (P : Int) (fun j => A 202 j) (fun j => A 203 j) (ax_nc (r_G M) (P : Int)))) (1 + ax_nc (r_G M) (P : Int) + ax_nd (r_G M) (P : Int)) i = z at *
      clear R kk HC HD GA hY hS h
      generalize (P : Int) = pp at *
      generalize (m : Int) = dd at *
      have a1 : E_C 134 [8, pp, dd, i] M = some (z, M') := by
        rw [s1]
        unfold e_t134_0
        simp [zq_a, zq_b, zq_c, zq_d, zq_e, zq_f, zq_g, zq_h, zq_i, zq_j, zq_k, zq_l, zq_m, zq_n, zq_o, zq_p, zq_q, zq_r, zq_s, zq_t, zq_u, zq_v, zq_w, zq_x, zq_y, zq_z, zq_A, zq_B, zq_C, zq_D, zq_E, zq_F, zq_G, zq_H, zq_I, zq_J, zq_K, zq_L, ↓zq_M, ↓zq_N, ↓zq_O, ↓zq_P, ↓zq_Q, ↓zq_R, zq_S, zq_T, zq_U, zq_V, zq_W, zq_X, zq_Y, zq_Z, zq_0, zq_1, zq_2, zq_3, zq_4, zq_5, ↓zq_6, ↓zq_7, ↓zq_8, ↓zq_9, ↓zq_aa, zq_ab, zq_ac, zq_ad, zq_ae, zq_af, zq_ag, ↓zq_ah, ↓zq_ai, ↓zq_aj, zq_ak, ↓zq_al, ↓zq_am, e_b1, e_b2, x_o1, x_o2, dg_8, c, c_n, k164, k44]
      have a2 : E_C 253 [192, pp, dd, i] M1 = some (z, A) := by
        rw [s2]
        unfold e_t253_0
        simp [zq_a, zq_b, zq_c, zq_d, zq_e, zq_f, zq_g, zq_h, zq_i, zq_j, zq_k, zq_l, zq_m, zq_n, zq_o, zq_p, zq_q, zq_r, zq_s, zq_t, zq_u, zq_v, zq_w, zq_x, zq_y, zq_z, zq_A, zq_B, zq_C, zq_D, zq_E, zq_F, zq_G, zq_H, zq_I, zq_J, zq_K, zq_L, ↓zq_M, ↓zq_N, ↓zq_O, ↓zq_P, ↓zq_Q, ↓zq_R, zq_S, zq_T, zq_U, zq_V, zq_W, zq_X, zq_Y, zq_Z, zq_0, zq_1, zq_2, zq_3, zq_4, zq_5, ↓zq_6, ↓zq_7, ↓zq_8, ↓zq_9, ↓zq_aa, zq_ab, zq_ac, zq_ad, zq_ae, zq_af, zq_ag, ↓zq_ah, ↓zq_ai, ↓zq_aj, zq_ak, ↓zq_al, ↓zq_am, e_b1, e_b2, x_o1, x_o2, c, c_n, kw, kA, k253]
      rw [(Prod.mk.inj (Option.some.inj (k1.symm.trans a1))).1, (Prod.mk.inj (Option.some.inj (k2.symm.trans a2))).1]
    · have kc := ax_164n h hS hJ w
      generalize ft_w M p d = z at *
      have a1 : E_C 134 [8, p, d, i] M = some (z, M) := by
        rw [s1]
        unfold e_t134_0
        simp [zq_a, zq_b, zq_c, zq_d, zq_e, zq_f, zq_g, zq_h, zq_i, zq_j, zq_k, zq_l, zq_m, zq_n, zq_o, zq_p, zq_q, zq_r, zq_s, zq_t, zq_u, zq_v, zq_w, zq_x, zq_y, zq_z, zq_A, zq_B, zq_C, zq_D, zq_E, zq_F, zq_G, zq_H, zq_I, zq_J, zq_K, zq_L, ↓zq_M, ↓zq_N, ↓zq_O, ↓zq_P, ↓zq_Q, ↓zq_R, zq_S, zq_T, zq_U, zq_V, zq_W, zq_X, zq_Y, zq_Z, zq_0, zq_1, zq_2, zq_3, zq_4, zq_5, ↓zq_6, ↓zq_7, ↓zq_8, ↓zq_9, ↓zq_aa, zq_ab, zq_ac, zq_ad, zq_ae, zq_af, zq_ag, ↓zq_ah, ↓zq_ai, ↓zq_aj, zq_ak, ↓zq_al, ↓zq_am, e_b1, e_b2, x_o1, x_o2, c, c_n, kc, w]
      have a2 : E_C 253 [192, p, d, i] M1 = some (z, M1) := by
        rw [s2]
        unfold e_t253_0
        simp [zq_a, zq_b, zq_c, zq_d, zq_e, zq_f, zq_g, zq_h, zq_i, zq_j, zq_k, zq_l, zq_m, zq_n, zq_o, zq_p, zq_q, zq_r, zq_s, zq_t, zq_u, zq_v, zq_w, zq_x, zq_y, zq_z, zq_A, zq_B, zq_C, zq_D, zq_E, zq_F, zq_G, zq_H, zq_I, zq_J, zq_K, zq_L, ↓zq_M, ↓zq_N, ↓zq_O, ↓zq_P, ↓zq_Q, ↓zq_R, zq_S, zq_T, zq_U, zq_V, zq_W, zq_X, zq_Y, zq_Z, zq_0, zq_1, zq_2, zq_3, zq_4, zq_5, ↓zq_6, ↓zq_7, ↓zq_8, ↓zq_9, ↓zq_aa, zq_ab, zq_ac, zq_ad, zq_ae, zq_af, zq_ag, ↓zq_ah, ↓zq_ai, ↓zq_aj, zq_ak, ↓zq_al, ↓zq_am, e_b1, e_b2, x_o1, x_o2, c, c_n, kw, w]
      rw [(Prod.mk.inj (Option.some.inj (k1.symm.trans a1))).1, (Prod.mk.inj (Option.some.inj (k2.symm.trans a2))).1]
theorem ax_look (h : hd_all M) (hS : h_S M) (hY : h_Y M) (hJ : r_J M) (J1 : r_J M1) (K1 : rx_K M1) (hfr : ∀ id i, 192 ≤ id → M1 id i = M id i) (k1 : E_C 135 [8, p, d] M = some (r1, M1)) (k2 : E_C 254 [192, p, d] M1 = some (r2, M2)) : r1 = r2 := by
  have s1 : E_C 135 [8, p, d] M = e_tv E_C (E_V 135) e_t135_0 [8, p, d, 0] M := r_ent (u := 135) (as := [8, p, d]) (M := M) (decide_eq_true c_this)
  have s2 : E_C 254 [192, p, d] M1 = e_tv E_C (E_V 254) e_t254_0 [192, p, d, 0, 0, 0, 0, 0, 0, 0, 0, 0] M1 := r_ent (u := 254) (as := [192, p, d]) (M := M1) (decide_eq_true r_ref)
  have kw := fq_251 (p := p) (d := d) J1
  rw [ft_w_cg hfr] at kw
  by_cases w : ft_w M p d = 0
  · obtain ⟨⟨p0, p1⟩, m, s, hm, m8, e2, e0, e7, s20⟩ := ft_w0 hJ w
    obtain ⟨P, rfl⟩ : ∃ P : Nat, p = P := ⟨p.toNat, by omega⟩
    subst hm
    have cap := (ax_cap h (P : Int)).resolve_right (fun e => e ⟨p0, p1⟩)
    have L6 := (ax_L6 h (P : Int)).resolve_right (fun e => e ⟨p0, p1⟩)
    have eG : r_G M1 = r_G M := funext fun i => hfr _ _ (by decide)
    obtain ⟨A, kA, GA, HC, HD, kk⟩ := fq_all (P := P) (m := m) (s := s) eG J1 K1 (hd_cs_of h.2.1) (hd_cvs_of h.2.2.1) p1 cap m8 ((hfr _ _ (by decide)).trans e7) s20
    obtain ⟨M', k164, R⟩ := ax_164y h hS hY p1 m8 e2 e0 e7 s20 (C := fun j => A 202 j) (D := fun j => A 203 j) HC HD
    rw [show (fun i => M1 198 (120 * m + i)) = (fun i => M 198 (120 * m + i)) from funext fun i => hfr _ _ (by decide)] at kk
    obtain ⟨Z, k254⟩ := fq_24 (dI := (m : Int)) (F := fq_F (r_G M) (P : Int) (fun j => A 202 j) (fun j => A 203 j) (ax_nc (r_G M) (P : Int))) cap.1 cap.2 GA kk 0 0 0 0 0 0
    have Fb : ∀ f u, 0 ≤ fq_F (r_G M) (P : Int) (fun j => A 202 j) (fun j => A 203 j) (ax_nc (r_G M) (P : Int)) f u ∧ fq_F (r_G M) (P : Int) (fun j => A 202 j) (fun j => A 203 j) (ax_nc (r_G M) (P : Int)) f u ≤ 594 := fun f u => ft_s_bd (g := r_G M) (X := cu_ln (r_G M) (cu_in (r_G M) (P : Int))) (C := fun j => A 202 j) (D := fun j => A 203 j) L6
    obtain ⟨F, hF⟩ : ∃ F, fq_F (r_G M) (P : Int) (fun j => A 202 j) (fun j => A 203 j) (ax_nc (r_G M) (P : Int)) = F := ⟨_, rfl⟩
    rw [hF] at R k254 Fb
    obtain ⟨Q, hQ⟩ : ∃ Q, ft_Q (fun i => M 198 (120 * m + i)) s F = Q := ⟨_, rfl⟩
    rw [hQ] at R k254
    obtain ⟨n, hn⟩ : ∃ n, 1 + ax_nc (r_G M) (P : Int) + ax_nd (r_G M) (P : Int) = n := ⟨_, rfl⟩
    have n81 : n ≤ 81 := by omega
    rw [hn] at R k254
    have gl := gd_n_le (D := Q) n
    obtain ⟨M'', k45, -⟩ := lk_45 (B := M') (n := gd_n Q n) (V := fun u k => F (ft_n Q n k) (u : Int)) R.1 (by omega) (fun u k hu hk => by
      obtain ⟨j, j1, j2, j3⟩ := ft_ex n hk
      show _ = F (ft_n Q n k) (u : Int)
      rw [ft_n_e j2 j3 _ j1, ← j3]
      exact (R.2 j j1 j2).2 u hu) (fun u k _ _ => Fb _ _)
    rw [w] at kw
    generalize (if gd_n Q n = 0 then (-4 : Int) else ((lk_b (fun u => lk_g (fun k => F (ft_n Q n k) (u : Int)) (gd_n Q n)) (gd_n Q n + 1) 121).1 : Int)) = z at *
    clear R kk HC HD GA hY hS h Fb
    generalize (P : Int) = pp at *
    generalize (m : Int) = dd at *
    have a1 : E_C 135 [8, pp, dd] M = some (z, M'') := by
      rw [s1]
      unfold e_t135_0
      simp [zq_a, zq_b, zq_c, zq_d, zq_e, zq_f, zq_g, zq_h, zq_i, zq_j, zq_k, zq_l, zq_m, zq_n, zq_o, zq_p, zq_q, zq_r, zq_s, zq_t, zq_u, zq_v, zq_w, zq_x, zq_y, zq_z, zq_A, zq_B, zq_C, zq_D, zq_E, zq_F, zq_G, zq_H, zq_I, zq_J, zq_K, zq_L, ↓zq_M, ↓zq_N, ↓zq_O, ↓zq_P, ↓zq_Q, ↓zq_R, zq_S, zq_T, zq_U, zq_V, zq_W, zq_X, zq_Y, zq_Z, zq_0, zq_1, zq_2, zq_3, zq_4, zq_5, ↓zq_6, ↓zq_7, ↓zq_8, ↓zq_9, ↓zq_aa, zq_ab, zq_ac, zq_ad, zq_ae, zq_af, zq_ag, ↓zq_ah, ↓zq_ai, ↓zq_aj, zq_ak, ↓zq_al, ↓zq_am, e_b1, e_b2, x_o1, x_o2, dg_8, k164, k45]
    have a2 : E_C 254 [192, pp, dd] M1 = some (z, Z) := by
      rw [s2]
      unfold e_t254_0
      simp [zq_a, zq_b, zq_c, zq_d, zq_e, zq_f, zq_g, zq_h, zq_i, zq_j, zq_k, zq_l, zq_m, zq_n, zq_o, zq_p, zq_q, zq_r, zq_s, zq_t, zq_u, zq_v, zq_w, zq_x, zq_y, zq_z, zq_A, zq_B, zq_C, zq_D, zq_E, zq_F, zq_G, zq_H, zq_I, zq_J, zq_K, zq_L, ↓zq_M, ↓zq_N, ↓zq_O, ↓zq_P, ↓zq_Q, ↓zq_R, zq_S, zq_T, zq_U, zq_V, zq_W, zq_X, zq_Y, zq_Z, zq_0, zq_1, zq_2, zq_3, zq_4, zq_5, ↓zq_6, ↓zq_7, ↓zq_8, ↓zq_9, ↓zq_aa, zq_ab, zq_ac, zq_ad, zq_ae, zq_af, zq_ag, ↓zq_ah, ↓zq_ai, ↓zq_aj, zq_ak, ↓zq_al, ↓zq_am, e_b1, e_b2, x_o1, x_o2, kw, kA, k254]
    rw [(Prod.mk.inj (Option.some.inj (k1.symm.trans a1))).1, (Prod.mk.inj (Option.some.inj (k2.symm.trans a2))).1]
  · have kc := ax_164n h hS hJ w
    generalize ft_w M p d = z at *
    have a1 : E_C 135 [8, p, d] M = some (z, M) := by
      rw [s1]
      unfold e_t135_0
      simp [zq_a, zq_b, zq_c, zq_d, zq_e, zq_f, zq_g, zq_h, zq_i, zq_j, zq_k, zq_l, zq_m, zq_n, zq_o, zq_p, zq_q, zq_r, zq_s, zq_t, zq_u, zq_v, zq_w, zq_x, zq_y, zq_z, zq_A, zq_B, zq_C, zq_D, zq_E, zq_F, zq_G, zq_H, zq_I, zq_J, zq_K, zq_L, ↓zq_M, ↓zq_N, ↓zq_O, ↓zq_P, ↓zq_Q, ↓zq_R, zq_S, zq_T, zq_U, zq_V, zq_W, zq_X, zq_Y, zq_Z, zq_0, zq_1, zq_2, zq_3, zq_4, zq_5, ↓zq_6, ↓zq_7, ↓zq_8, ↓zq_9, ↓zq_aa, zq_ab, zq_ac, zq_ad, zq_ae, zq_af, zq_ag, ↓zq_ah, ↓zq_ai, ↓zq_aj, zq_ak, ↓zq_al, ↓zq_am, e_b1, e_b2, x_o1, x_o2, kc, w]
    have a2 : E_C 254 [192, p, d] M1 = some (z, M1) := by
      rw [s2]
      unfold e_t254_0
      simp [zq_a, zq_b, zq_c, zq_d, zq_e, zq_f, zq_g, zq_h, zq_i, zq_j, zq_k, zq_l, zq_m, zq_n, zq_o, zq_p, zq_q, zq_r, zq_s, zq_t, zq_u, zq_v, zq_w, zq_x, zq_y, zq_z, zq_A, zq_B, zq_C, zq_D, zq_E, zq_F, zq_G, zq_H, zq_I, zq_J, zq_K, zq_L, ↓zq_M, ↓zq_N, ↓zq_O, ↓zq_P, ↓zq_Q, ↓zq_R, zq_S, zq_T, zq_U, zq_V, zq_W, zq_X, zq_Y, zq_Z, zq_0, zq_1, zq_2, zq_3, zq_4, zq_5, ↓zq_6, ↓zq_7, ↓zq_8, ↓zq_9, ↓zq_aa, zq_ab, zq_ac, zq_ad, zq_ae, zq_af, zq_ag, ↓zq_ah, ↓zq_ai, ↓zq_aj, zq_ak, ↓zq_al, ↓zq_am, e_b1, e_b2, x_o1, x_o2, kw, w]
    rw [(Prod.mk.inj (Option.some.inj (k1.symm.trans a1))).1, (Prod.mk.inj (Option.some.inj (k2.symm.trans a2))).1]
end AXF
end
section
/-! level Y: bytes on SHELVES stay bytes -/
def h_RY (M : EM) : Prop := h_RD M ∧ h_Y M
def h_YW : AW := [(195, 0, 7), (196, 0, 7), (198, 0, 959)]
theorem h_Y_cg {M M' : EM} (h : h_Y M) (f : ∀ id k, id = 195 ∨ id = 196 ∨ id = 198 → k < 960 → (id = 195 ∨ id = 196 → k < 8) → M' id k = M id k) : h_Y M' := by
  intro m i hm hi h2 h0
  rw [f 195 m (by omega) (by omega) (by omega)] at h2
  rw [f 196 m (by omega) (by omega) (by omega)] at h0
  rw [f 198 _ (by omega) (by omega) (by omega)]
  exact h m i hm hi h2 h0
theorem h_keY {W : AW} {M M' : EM} (h : h_av h_YW W = true) (hf : a_fr W M M') (hY : h_Y M) : h_Y M' := by
  have a := h_av_ok h hf
  have a1 := a (195, 0, 7) (by unfold h_YW; simp)
  have a2 := a (196, 0, 7) (by unfold h_YW; simp)
  have a3 := a (198, 0, 959) (by unfold h_YW; simp)
  refine h_Y_cg hY (fun id k hid hk h8 => ?_)
  rcases hid with e | e | e
  · subst e
    exact a1 k (Nat.zero_le _) (by show k ≤ 7; have := h8 (Or.inl rfl); omega)
  · subst e
    exact a2 k (Nat.zero_le _) (by show k ≤ 7; have := h8 (Or.inr rfl); omega)
  · subst e
    exact a3 k (Nat.zero_le _) (by show k ≤ 959; omega)
theorem h_keptY {d w k r2 : Int} {M M1 M2 : EM} (hY : h_Y M) (J1 : r_J M1) (hfr : ∀ id i, 192 ≤ id → M1 id i = M id i) (k2 : E_C 258 [192, d, w, k] M1 = some (r2, M2)) : h_Y M2 := by
  have hY1 : h_Y M1 := h_Y_cg hY (fun id k hid _ _ => hfr _ _ (by omega))
  obtain ⟨r, M2', c1, c2⟩ := h_keep2 (d := d) (w := w) (p := k) J1
  obtain ⟨-, e4⟩ := Prod.mk.inj (Option.some.inj (k2.symm.trans c1))
  subst e4
  rcases c2 with ⟨⟨q0, q1, q2⟩, -, f⟩ | ⟨-, -, f⟩
  · have a := h_av_ok (K := h_YW) (by decide +kernel) f
    have a1 := a (195, 0, 7) (by unfold h_YW; simp)
    have a2 := a (196, 0, 7) (by unfold h_YW; simp)
    have a3 := a (198, 0, 959) (by unfold h_YW; simp)
    intro m i hm hi h2 h0
    have z1 : M2 195 m = e_up M1 195 d.toNat w 195 m := a1 m (Nat.zero_le _) (by show m ≤ 7; omega)
    have z2 : M2 196 m = e_up M1 195 d.toNat w 196 m := a2 m (Nat.zero_le _) (by show m ≤ 7; omega)
    have z3 : M2 198 (120 * m + i) = e_up M1 195 d.toNat w 198 (120 * m + i) := a3 _ (Nat.zero_le _) (by show 120 * m + i ≤ 959; omega)
    rw [z1] at h2
    rw [z2, c_up_n (by omega)] at h0
    rw [z3, c_up_n (by omega)]
    by_cases e : m = d.toNat
    · subst e
      rw [c_up_s] at h2
      omega
    · rw [c_up_n (by omega)] at h2
      exact hY1 m i hm hi h2 h0
  · rw [f]
    exact hY1
theorem h_rowY {d k n r2 : Int} {M M1 M2 : EM} (hY : h_Y M) (hfr : ∀ id i, 192 ≤ id → M1 id i = M id i) (k2 : E_C 259 [192, d, k, n] M1 = some (r2, M2)) : h_Y M2 := by
  have hY1 : h_Y M1 := h_Y_cg hY (fun id k hid _ _ => hfr _ _ (by omega))
  by_cases q : 0 ≤ d ∧ d < 8 ∧ 0 ≤ k ∧ k ≤ 2 ∧ n ≤ 120 ∧ 0 ≤ n
  · obtain ⟨q0, q1, q2, q3, q4, q5⟩ := q
    obtain ⟨m, hm⟩ : ∃ m : Nat, d = m := ⟨d.toNat, by omega⟩
    obtain ⟨M', l1, l2, l3⟩ := h_259l (d := d) (k := k) (n := n) ⟨q0, q1⟩ 120 0 (e_up (e_up (e_up M1 195 m 2) 196 m k) 197 m n) rfl
    have e := (Prod.mk.inj (Option.some.inj (k2.symm.trans (h_259y hm (by omega) ⟨q2, q3⟩ q4 q5 l1)))).2
    subst e
    rw [show d.toNat = m by omega] at l2 l3
    intro m' i hm' hi h2 h0
    by_cases e : m' = m
    · subst e
      rw [l3 i (Nat.zero_le _) hi]
      decide
    · rw [l2 _ _ (by omega), c_up_n (by omega), c_up_n (by omega), c_up_n (by omega)] at h2
      rw [l2 _ _ (by omega), c_up_n (by omega), c_up_n (by omega), c_up_n (by omega)] at h0
      rw [l2 _ _ (by omega), c_up_n (by omega), c_up_n (by omega), c_up_n (by omega)]
      exact hY1 m' i hm' hi h2 h0
  · have e := (Prod.mk.inj (Option.some.inj (k2.symm.trans (h_259n q)))).2
    rw [e]
    exact hY1
theorem h_putY {d i v r2 : Int} {M M1 M2 : EM} (hY : h_Y M) (J1 : r_J M1) (hfr : ∀ id i, 192 ≤ id → M1 id i = M id i) (k2 : E_C 260 [192, d, i, v] M1 = some (r2, M2)) : h_Y M2 := by
  have hY1 : h_Y M1 := h_Y_cg hY (fun id k hid _ _ => hfr _ _ (by omega))
  have c2 := h_189 (d := d) (w := -1) (M := M1) (by decide)
  by_cases q : h_no M1 d (-1) = 0
  · obtain ⟨hd, kept⟩ := h_no2 q
    obtain ⟨m, rfl⟩ : ∃ m : Nat, d = m := ⟨d.toNat, by omega⟩
    have m8 : m < 8 := by omega
    have sz := J1.2.1 m m8
    rw [q] at c2
    obtain ⟨-, l2, l3, -⟩ := r_isD (m : Int) M1 ⟨by omega, by omega⟩
    rw [Int.toNat_natCast] at l2 l3
    obtain ⟨n, hn⟩ : ∃ n, M1 197 m = n := ⟨_, rfl⟩
    rw [hn] at l3 sz
    by_cases c : 0 ≤ i ∧ i < n
    · obtain ⟨j, hj⟩ : ∃ j : Nat, i = j := ⟨i.toNat, by omega⟩
      have b8 : 0 ≤ 120 * (m : Int) + i ∧ 120 * (m : Int) + i < 960 ∧ (120 * (m : Int) + i).toNat = 120 * m + j ∧ j < 120 := by omega
      have st : ∀ v M, e_st 100 [198, 120 * (m : Int) + i, v] M = some (e_up M 198 (120 * m + j) v) := fun v M => (r_st (n := 960) (by decide) (by decide +kernel) (by decide +kernel) b8.1 b8.2.1).trans (by rw [b8.2.2.1]; rfl)
      have kin := r_in1 (M := M1) (x := i) (lo := 0) (hi := n - 1) (by omega)
      have w1 : e_w (n - 1) = n - 1 := a_w_id (by omega) (by omega)
      have w2 : e_w (120 * (m : Int)) = 120 * (m : Int) := a_w_id (by omega) (by omega)
      have w3 : e_w (120 * (m : Int) + i) = 120 * (m : Int) + i := a_w_id (by omega) (by omega)
      have e := (Prod.mk.inj (Option.some.inj (k2.symm.trans (h_260y (x := if M1 196 m = 0 then (v + 128) % 256 - 128 else if M1 196 m = 1 then (v + 32768) % 65536 - 32768 else v) c2 l3 w1 kin l2 (rfl : e_b1 24 v = some ((v + 128) % 256 - 128)) (rfl : e_b1 25 v = some ((v + 32768) % 65536 - 32768)) rfl w2 w3 st)))).2
      subst e
      clear w1 w2 w3 st kin k2
      intro m' i' hm' hi' h2 h0
      rw [c_up_n (by omega)] at h2
      rw [c_up_n (by omega)] at h0
      by_cases e : 120 * m' + i' = 120 * m + j
      · have em : m' = m := by omega
        subst em
        rw [e, c_up_s, if_pos h0]
        omega
      · rw [c_up_n (by omega)]
        exact hY1 m' i' hm' hi' h2 h0
    · have w1 : e_w (n - 1) = n - 1 := a_w_id (by omega) (by omega)
      have kin := r_in0 (M := M1) (x := i) (lo := 0) (hi := n - 1) (by omega)
      have e := (Prod.mk.inj (Option.some.inj (k2.symm.trans (h_260m c2 l3 w1 kin)))).2
      rw [e]
      exact hY1
  · have e := (Prod.mk.inj (Option.some.inj (k2.symm.trans (h_260n c2 q)))).2
    rw [e]
    exact hY1
theorem h_copyY {d i e j n r2 : Int} {M M1 M2 : EM} (hY : h_Y M) (J1 : r_J M1) (hfr : ∀ id i, 192 ≤ id → M1 id i = M id i) (hi : -2147483648 ≤ i ∧ i ≤ 2147483647) (hj : -2147483648 ≤ j ∧ j ≤ 2147483647) (k2 : E_C 262 [192, d, i, e, j, n] M1 = some (r2, M2)) : h_Y M2 := by
  have hY1 : h_Y M1 := h_Y_cg hY (fun id k hid _ _ => hfr _ _ (by omega))
  have same : ∀ z, E_C 262 [192, d, i, e, j, n] M1 = some (z, M1) → h_Y M2 := fun z hz => by
    rw [(Prod.mk.inj (Option.some.inj (k2.symm.trans hz))).2]
    exact hY1
  have i0 := h_is (d := d) M1
  have i1 := h_is (d := e) M1
  by_cases hde : (0 ≤ d ∧ d < 8) ∧ (0 ≤ e ∧ e < 8)
  · obtain ⟨hd, he⟩ := hde
    obtain ⟨m, hm⟩ : ∃ m : Nat, d = m := ⟨d.toNat, by omega⟩
    obtain ⟨l, hl⟩ : ∃ l : Nat, e = l := ⟨e.toNat, by omega⟩
    subst hm
    subst hl
    have m8 : m < 8 := by omega
    have l8 : l < 8 := by omega
    rw [if_pos hd] at i0
    rw [if_pos he] at i1
    obtain ⟨a1, a2, a3, -⟩ := r_isD (m : Int) M1 ⟨hd.1, by omega⟩
    obtain ⟨b1, b2, b3, -⟩ := r_isD (l : Int) M1 ⟨he.1, by omega⟩
    rw [Int.toNat_natCast] at a1 a2 a3 b1 b2 b3
    by_cases q11 : M1 195 m = 0 ∨ M1 195 l = 0
    · exact same _ (h_262b (i := i) (j := j) (n := n) i0 i1 a1 b1 q11)
    · by_cases q12 : M1 195 m ≠ 2 ∨ M1 195 l ≠ 2 ∨ M1 196 m ≠ M1 196 l
      · exact same _ (h_262c (i := i) (j := j) (n := n) i0 i1 a1 b1 (by omega) (by omega) a2 b2 q12)
      · have rm : M1 195 m = 2 := by omega
        have rl : M1 195 l = 2 := by omega
        have ss : M1 196 m = M1 196 l := by omega
        have zm := J1.2.1 m m8
        have zl := J1.2.1 l l8
        rw [rm] at a1
        rw [rl] at b1
        rw [← ss] at b2
        have wi : 0 ≤ i → e_w (M1 197 m - i) = M1 197 m - i := fun h => a_w_id (by omega) (by omega)
        have wj : 0 ≤ j → e_w (M1 197 l - j) = M1 197 l - j := fun h => a_w_id (by omega) (by omega)
        by_cases q13 : 0 ≤ n ∧ 0 ≤ i ∧ 0 ≤ j ∧ n ≤ M1 197 m - i ∧ n ≤ M1 197 l - j
        · obtain ⟨n0, i00, j00, nm, nl⟩ := q13
          obtain ⟨I, hI⟩ : ∃ I : Nat, i = I := ⟨i.toNat, by clear wi wj; omega⟩
          obtain ⟨J, hJ'⟩ : ∃ J : Nat, j = J := ⟨j.toNat, by clear wi wj; omega⟩
          obtain ⟨L, hL⟩ : ∃ L : Nat, n = L := ⟨n.toNat, by clear wi wj; omega⟩
          subst hI
          subst hJ'
          subst hL
          have wi' := wi i00
          have wj' := wj j00
          clear wi wj
          have bI : I + L ≤ 120 := by clear wi' wj'; omega
          have bJ : J + L ≤ 120 := by clear wi' wj'; omega
          obtain ⟨M', v1, v2, v3⟩ := h_262l (d := m) (e := l) (i := I) (j := J) (n := L) m8 l8 bI bJ M1 L 0 0 M1 (Nat.zero_add _) ⟨fun t ht hw => by
            exfalso
            unfold h_W at hw
            clear wi' wj'
            split at hw <;> omega, fun _ _ _ => rfl⟩
          have v1' : E_V 262 122 [192, (m : Int), (I : Int), (l : Int), (J : Int), (L : Int), 0, 0] M1 = some ((L : Int), M') := v1
          have e4 := (Prod.mk.inj (Option.some.inj (k2.symm.trans (h_262e i0 i1 a1 b1 a2 b2 a3 b3 wi' wj' n0 i00 j00 nm nl v1')))).2
          subst e4
          clear wi' wj' k2 same
          intro m' i' hm' hi' h2 h0
          rw [v3 _ _ (by omega)] at h2
          rw [v3 _ _ (by omega)] at h0
          by_cases c : m' = l ∧ J ≤ i' ∧ i' < J + L
          · obtain ⟨c1, c2, c3⟩ := c
            subst c1
            have vv := v2 (i' - J) (by omega)
            rw [show 120 * m' + J + (i' - J) = 120 * m' + i' by omega, show 120 * m + I + (i' - J) = 120 * m + (I + (i' - J)) by omega] at vv
            rw [vv]
            exact hY1 m _ m8 (by omega) rm (by omega)
          · rw [v3 _ _ (by omega)]
            exact hY1 m' i' hm' hi' h2 h0
        · exact same _ (h_262d i0 i1 a1 b1 a2 b2 a3 b3 wi wj q13)
  · have cx : (if 0 ≤ d ∧ d < 8 then (1 : Int) else 0) = 0 ∨ (if 0 ≤ e ∧ e < 8 then (1 : Int) else 0) = 0 := by
      by_cases hd : 0 ≤ d ∧ d < 8
      · exact Or.inr (if_neg (fun he => hde ⟨hd, he⟩))
      · exact Or.inl (if_neg hd)
    exact same _ (h_262a i0 i1 cx)
end
