section
/-! sky: the two answers -/
theorem h_225s {d z i y ia ib ic : Int} {na : Nat} {v : Int} {M : EM} (q : i < 120) (w0 : e_w (1202 + i) = ia) (w1 : e_w (120 * d) = ib) (w2 : e_w (ib + i) = ic) (w3 : e_w (i + 1) = y) (l : e_op 60 [198, ic] M = some v) (st : ∀ v, e_st 100 [193, ia, v] M = some (e_up M 193 na v)) : E_V 225 43 [192, d, z, i] M = E_V 225 43 [192, d, z, y] (e_up M 193 na v) := by
  rw [E_V_eq]
  show e_tv E_C (E_V 225) e_t225_43 [192, d, z, i] M = _
  unfold e_t225_43
  simp [zq_a, zq_b, zq_c, zq_d, zq_e, zq_f, zq_g, zq_h, zq_i, zq_j, zq_k, zq_l, zq_m, zq_n, zq_o, zq_p, zq_q, zq_r, zq_s, zq_t, zq_u, zq_v, zq_w, zq_x, zq_y, zq_z, zq_A, zq_B, zq_C, zq_D, zq_E, zq_F, zq_G, zq_H, zq_I, zq_J, zq_K, zq_L, ↓zq_M, ↓zq_N, ↓zq_O, ↓zq_P, ↓zq_Q, ↓zq_R, zq_S, zq_T, zq_U, zq_V, zq_W, zq_X, zq_Y, zq_Z, zq_0, zq_1, zq_2, zq_3, zq_4, zq_5, ↓zq_6, ↓zq_7, ↓zq_8, ↓zq_9, ↓zq_aa, zq_ab, zq_ac, zq_ad, zq_ae, zq_af, zq_ag, ↓zq_ah, ↓zq_ai, ↓zq_aj, zq_ak, ↓zq_al, ↓zq_am, e_b1, e_b2, x_o1, x_o2, r_O0, r_O5, q, w0, w1, w2, w3, l, st]
theorem h_225e {d z n : Int} {M : EM} (l : e_op 60 [197, d] M = some n) : E_V 225 43 [192, d, z, 120] M = some (n, M) := by
  rw [E_V_eq]
  show e_tv E_C (E_V 225) e_t225_43 [192, d, z, 120] M = _
  unfold e_t225_43
  simp [zq_a, zq_b, zq_c, zq_d, zq_e, zq_f, zq_g, zq_h, zq_i, zq_j, zq_k, zq_l, zq_m, zq_n, zq_o, zq_p, zq_q, zq_r, zq_s, zq_t, zq_u, zq_v, zq_w, zq_x, zq_y, zq_z, zq_A, zq_B, zq_C, zq_D, zq_E, zq_F, zq_G, zq_H, zq_I, zq_J, zq_K, zq_L, ↓zq_M, ↓zq_N, ↓zq_O, ↓zq_P, ↓zq_Q, ↓zq_R, zq_S, zq_T, zq_U, zq_V, zq_W, zq_X, zq_Y, zq_Z, zq_0, zq_1, zq_2, zq_3, zq_4, zq_5, ↓zq_6, ↓zq_7, ↓zq_8, ↓zq_9, ↓zq_aa, zq_ab, zq_ac, zq_ad, zq_ae, zq_af, zq_ag, ↓zq_ah, ↓zq_ai, ↓zq_aj, zq_ak, ↓zq_al, ↓zq_am, e_b1, e_b2, x_o1, x_o2, r_O4, l]
theorem h_225l {d : Nat} {z : Int} (hd : d < 8) : ∀ (m i : Nat) (M : EM), i + m = 120 → ∃ M', E_V 225 43 [192, (d : Int), z, (i : Int)] M = some (M 197 d, M') := by
  intro m
  induction m with
  | zero =>
    intro i M hm
    have e : i = 120 := by omega
    subst e
    have b : 0 ≤ (d : Int) ∧ (d : Int) ≤ 7 := by omega
    have l := (r_isD (d : Int) M b).2.2.1
    rw [Int.toNat_natCast] at l
    exact ⟨M, h_225e l⟩
  | succ m ih =>
    intro i M hm
    have q : (i : Int) < 120 := by omega
    have b1 : 0 ≤ 1202 + (i : Int) ∧ 1202 + (i : Int) < 1330 := by omega
    have b2 : 0 ≤ 120 * (d : Int) + (i : Int) ∧ 120 * (d : Int) + (i : Int) < 960 := by omega
    have st := fun v => r_stw (i := 1202 + (i : Int)) (v := v) (M := M) b1.1 b1.2
    have l := r_rdE (M := M) b2.1 b2.2
    have w : e_w (1202 + (i : Int)) = 1202 + (i : Int) ∧ e_w (120 * (d : Int)) = 120 * (d : Int) ∧ e_w (120 * (d : Int) + (i : Int)) = 120 * (d : Int) + (i : Int) ∧ e_w ((i : Int) + 1) = ((i + 1 : Nat) : Int) := by
      clear st l ih
      refine ⟨?_, ?_, ?_, (a_w_id (by omega) (by omega)).trans (by omega)⟩ <;> exact a_w_id (by omega) (by omega)
    obtain ⟨M', k⟩ := ih (i + 1) (e_up M 193 (1202 + (i : Int)).toNat (M 198 (120 * (d : Int) + (i : Int)).toNat)) (by omega)
    rw [c_up_n (fun h => absurd h.1 (by decide))] at k
    exact ⟨M', (h_225s q w.1 w.2.1 w.2.2.1 w.2.2.2 l st).trans k⟩
theorem h_225n {d z : Int} {M : EM} (k : E_C 189 [192, d, -1] M = some (z, M)) (hz : z ≠ 0) : E_C 225 [192, d] M = some (z, M) := by
  rw [r_ent (show e_rok 225 [192, d] = true from decide_eq_true r_ref)]
  show e_tv E_C (E_V 225) e_t225_0 [192, d, 0, 0] M = _
  unfold e_t225_0
  simp [zq_a, zq_b, zq_c, zq_d, zq_e, zq_f, zq_g, zq_h, zq_i, zq_j, zq_k, zq_l, zq_m, zq_n, zq_o, zq_p, zq_q, zq_r, zq_s, zq_t, zq_u, zq_v, zq_w, zq_x, zq_y, zq_z, zq_A, zq_B, zq_C, zq_D, zq_E, zq_F, zq_G, zq_H, zq_I, zq_J, zq_K, zq_L, ↓zq_M, ↓zq_N, ↓zq_O, ↓zq_P, ↓zq_Q, ↓zq_R, zq_S, zq_T, zq_U, zq_V, zq_W, zq_X, zq_Y, zq_Z, zq_0, zq_1, zq_2, zq_3, zq_4, zq_5, ↓zq_6, ↓zq_7, ↓zq_8, ↓zq_9, ↓zq_aa, zq_ab, zq_ac, zq_ad, zq_ae, zq_af, zq_ag, ↓zq_ah, ↓zq_ai, ↓zq_aj, zq_ak, ↓zq_al, ↓zq_am, e_b1, e_b2, x_o1, x_o2, k, hz]
theorem h_225y {d a c : Int} {M : EM} {o : EO} (k : E_C 189 [192, d, -1] M = some (0, M)) (l1 : ∀ M', M' 197 = M 197 → e_op 60 [197, d] M' = some a) (l2 : ∀ M', M' 196 = M 196 → e_op 60 [196, d] M' = some c) (g : E_V 225 43 [192, d, 0, 0] (e_up (e_up M 193 1200 a) 193 1201 c) = o) : E_C 225 [192, d] M = o := by
  have s1 : ∀ v M, e_st 100 [193, 1200, v] M = some (e_up M 193 1200 v) := fun v M => r_stw (i := 1200) (by decide) (by decide)
  have s2 : ∀ v M, e_st 100 [193, 1201, v] M = some (e_up M 193 1201 v) := fun v M => r_stw (i := 1201) (by decide) (by decide)
  have e1 := l1 M rfl
  have e2 := l2 (e_up M 193 1200 a) (by funext j; exact c_up_n (fun h => absurd h.1 (by decide)))
  rw [r_ent (show e_rok 225 [192, d] = true from decide_eq_true r_ref)]
  show e_tv E_C (E_V 225) e_t225_0 [192, d, 0, 0] M = _
  unfold e_t225_0
  simp [zq_a, zq_b, zq_c, zq_d, zq_e, zq_f, zq_g, zq_h, zq_i, zq_j, zq_k, zq_l, zq_m, zq_n, zq_o, zq_p, zq_q, zq_r, zq_s, zq_t, zq_u, zq_v, zq_w, zq_x, zq_y, zq_z, zq_A, zq_B, zq_C, zq_D, zq_E, zq_F, zq_G, zq_H, zq_I, zq_J, zq_K, zq_L, ↓zq_M, ↓zq_N, ↓zq_O, ↓zq_P, ↓zq_Q, ↓zq_R, zq_S, zq_T, zq_U, zq_V, zq_W, zq_X, zq_Y, zq_Z, zq_0, zq_1, zq_2, zq_3, zq_4, zq_5, ↓zq_6, ↓zq_7, ↓zq_8, ↓zq_9, ↓zq_aa, zq_ab, zq_ac, zq_ad, zq_ae, zq_af, zq_ag, ↓zq_ah, ↓zq_ai, ↓zq_aj, zq_ak, ↓zq_al, ↓zq_am, e_b1, e_b2, x_o1, x_o2, r_O0, r_O3, r_O4, k, e1, e2, s1, s2, g]
theorem h_sky {d r1 r2 : Int} {M M1 M2 : EM} (hS : h_S M) (hfr : ∀ id i, 192 ≤ id → M1 id i = M id i) (hsh : ∀ m : Nat, m < 8 → M1 (146 + 2 * m) 5 = M (146 + 2 * m) 5) (k1 : E_C 121 [8, d] M = some (r1, M1)) (k2 : E_C 225 [192, d] M1 = some (r2, M2)) : r1 = r2 ∧ True := by
  refine ⟨?_, trivial⟩
  have k3 := h_189 (d := d) (w := -1) (M := M1) (by decide)
  have eno : h_no M1 d (-1) = h_no M d (-1) := by
    unfold h_no
    rw [hfr 195 _ (by decide), hfr 196 _ (by decide)]
  rw [eno] at k3
  by_cases q : h_no M d (-1) = 0
  · obtain ⟨hd, kept⟩ := h_no2 q
    obtain ⟨m, rfl⟩ : ∃ m : Nat, d = m := ⟨d.toNat, by omega⟩
    rw [Int.toNat_natCast] at kept
    have m8 : m < 8 := by omega
    have hh := (h_gr145 m8).2
    obtain ⟨c0, c1⟩ := h_ref (w := -1) hS hd
    rw [q, Int.toNat_natCast] at c1
    rw [Int.toNat_natCast] at c0
    rw [q] at k3
    have a1 := h_121i hh c0 c1 k1
    rw [Int.toNat_natCast, hsh m m8] at a1
    have e5 : M (146 + 2 * m) 5 = M 197 m := by
      rcases hS m m8 with ⟨a, -⟩ | ⟨a, -⟩ | ⟨a, -, -, -, e5, -⟩
      · omega
      · omega
      · exact e5
    have b : 0 ≤ (m : Int) ∧ (m : Int) ≤ 7 := by omega
    have l1 : ∀ M', M' 197 = M1 197 → e_op 60 [197, (m : Int)] M' = some (M1 197 m) := fun M' e => by
      have l := (r_isD (m : Int) M' b).2.2.1
      rw [Int.toNat_natCast, e] at l
      exact l
    have l2 : ∀ M', M' 196 = M1 196 → e_op 60 [196, (m : Int)] M' = some (M1 196 m) := fun M' e => by
      have l := (r_isD (m : Int) M' b).2.1
      rw [Int.toNat_natCast, e] at l
      exact l
    obtain ⟨M', g⟩ := h_225l (z := 0) m8 120 0 (e_up (e_up M1 193 1200 (M1 197 m)) 193 1201 (M1 196 m)) (by decide)
    rw [c_up_n (fun h => absurd h.1 (by decide)), c_up_n (fun h => absurd h.1 (by decide))] at g
    have e3 := Prod.mk.inj (Option.some.inj (k2.symm.trans (h_225y k3 l1 l2 g)))
    rw [a1, e3.1, e5]
    exact (hfr 197 m (by decide)).symm
  · have cc : ∃ x, E_C 154 [8, d] M = some (x, M) ∧ E_C 156 [x, -1] M = some (h_no M d (-1), M) := by
      by_cases hd : 0 ≤ d ∧ d < 8
      · exact ⟨_, h_ref hS hd⟩
      · obtain ⟨a, b, c⟩ := h_ref1 (w := -1) (M := M) hd
        exact ⟨-1, a, by rw [c]; exact b⟩
    obtain ⟨x, c0, c1⟩ := cc
    have e1 := Prod.mk.inj (Option.some.inj (k1.symm.trans (h_121n c0 c1 q)))
    have e3 := Prod.mk.inj (Option.some.inj (k2.symm.trans (h_225n k3 q)))
    rw [e1.1, e3.1]
theorem h_sh5 {W : AW} {M M' : EM} (h : h_av h_KS W = true) (hf : a_fr W M M') : ∀ m : Nat, m < 8 → M' (146 + 2 * m) 5 = M (146 + 2 * m) 5 := fun m hm => by
  have mem : (146 + 2 * m, 4, 5) ∈ h_KS := List.mem_append.mpr (Or.inr (List.mem_flatMap.mpr ⟨m, List.mem_range.mpr hm, by simp⟩))
  exact h_av_ok h hf _ mem 5 (Nat.le_succ 4) (Nat.le_refl 5)
end
section
/-! dead, lies: the two answers; what is told of CELLS stays related -/
theorem h_150 {p k : Int} {M : EM} (h : 0 ≤ p ∧ p < 40) : E_C 150 [8, p, k] M = some (if M 11 p.toNat = k then 1 else 0, M) := by
  have t : ∀ M, E_C 146 [11, p] M = some (M 11 p.toNat, M) := fun M => p_at (a := 11) (n := 40) (by decide +kernel) ⟨h.1, by omega⟩ M
  have s0 : E_C 150 [8, p, k] M = e_tv E_C (E_V 150) e_t150_0 [8, p, k] M := r_ent (u := 150) (as := [8, p, k]) (M := M) (decide_eq_true c_this)
  rw [s0]
  unfold e_t150_0
  by_cases c : M 11 p.toNat = k
  · rw [if_pos c]
    simp [zq_a, zq_b, zq_c, zq_d, zq_e, zq_f, zq_g, zq_h, zq_i, zq_j, zq_k, zq_l, zq_m, zq_n, zq_o, zq_p, zq_q, zq_r, zq_s, zq_t, zq_u, zq_v, zq_w, zq_x, zq_y, zq_z, zq_A, zq_B, zq_C, zq_D, zq_E, zq_F, zq_G, zq_H, zq_I, zq_J, zq_K, zq_L, ↓zq_M, ↓zq_N, ↓zq_O, ↓zq_P, ↓zq_Q, ↓zq_R, zq_S, zq_T, zq_U, zq_V, zq_W, zq_X, zq_Y, zq_Z, zq_0, zq_1, zq_2, zq_3, zq_4, zq_5, ↓zq_6, ↓zq_7, ↓zq_8, ↓zq_9, ↓zq_aa, zq_ab, zq_ac, zq_ad, zq_ae, zq_af, zq_ag, ↓zq_ah, ↓zq_ai, ↓zq_aj, zq_ak, ↓zq_al, ↓zq_am, e_b1, e_b2, x_o1, x_o2, p_704, w_H0, w_P1, t, c]
  · rw [if_neg c]
    simp [zq_a, zq_b, zq_c, zq_d, zq_e, zq_f, zq_g, zq_h, zq_i, zq_j, zq_k, zq_l, zq_m, zq_n, zq_o, zq_p, zq_q, zq_r, zq_s, zq_t, zq_u, zq_v, zq_w, zq_x, zq_y, zq_z, zq_A, zq_B, zq_C, zq_D, zq_E, zq_F, zq_G, zq_H, zq_I, zq_J, zq_K, zq_L, ↓zq_M, ↓zq_N, ↓zq_O, ↓zq_P, ↓zq_Q, ↓zq_R, zq_S, zq_T, zq_U, zq_V, zq_W, zq_X, zq_Y, zq_Z, zq_0, zq_1, zq_2, zq_3, zq_4, zq_5, ↓zq_6, ↓zq_7, ↓zq_8, ↓zq_9, ↓zq_aa, zq_ab, zq_ac, zq_ad, zq_ae, zq_af, zq_ag, ↓zq_ah, ↓zq_ai, ↓zq_aj, zq_ak, ↓zq_al, ↓zq_am, e_b1, e_b2, x_o1, x_o2, p_704, w_H0, w_P1, t, c]
theorem h_108a {p v : Int} {M : EM} (c : ¬ (0 ≤ p ∧ p < M 10 0)) : E_C 108 [8, p, v] M = some (-1, M) := by
  have i : E_C 149 [8, p] M = some (0, M) := h_149.trans (congrArg some (congrArg (·, M) (if_neg c)))
  have s0 : E_C 108 [8, p, v] M = e_tv E_C (E_V 108) e_t108_0 [8, p, v, 0, 0] M := r_ent (u := 108) (as := [8, p, v]) (M := M) (decide_eq_true c_this)
  rw [s0]
  unfold e_t108_0
  simp [zq_a, zq_b, zq_c, zq_d, zq_e, zq_f, zq_g, zq_h, zq_i, zq_j, zq_k, zq_l, zq_m, zq_n, zq_o, zq_p, zq_q, zq_r, zq_s, zq_t, zq_u, zq_v, zq_w, zq_x, zq_y, zq_z, zq_A, zq_B, zq_C, zq_D, zq_E, zq_F, zq_G, zq_H, zq_I, zq_J, zq_K, zq_L, ↓zq_M, ↓zq_N, ↓zq_O, ↓zq_P, ↓zq_Q, ↓zq_R, zq_S, zq_T, zq_U, zq_V, zq_W, zq_X, zq_Y, zq_Z, zq_0, zq_1, zq_2, zq_3, zq_4, zq_5, ↓zq_6, ↓zq_7, ↓zq_8, ↓zq_9, ↓zq_aa, zq_ab, zq_ac, zq_ad, zq_ae, zq_af, zq_ag, ↓zq_ah, ↓zq_ai, ↓zq_aj, zq_ak, ↓zq_al, ↓zq_am, e_b1, e_b2, x_o1, x_o2, i]
theorem h_108b {p v : Int} {M : EM} (c : 0 ≤ p ∧ p < M 10 0) (h : p < 40) (k : M 11 p.toNat ≠ 0) : E_C 108 [8, p, v] M = some (-3, M) := by
  have i : E_C 149 [8, p] M = some (1, M) := h_149.trans (congrArg some (congrArg (·, M) (if_pos c)))
  have j : E_C 150 [8, p, 0] M = some (0, M) := (h_150 ⟨c.1, h⟩).trans (congrArg some (congrArg (·, M) (if_neg k)))
  have s0 : E_C 108 [8, p, v] M = e_tv E_C (E_V 108) e_t108_0 [8, p, v, 0, 0] M := r_ent (u := 108) (as := [8, p, v]) (M := M) (decide_eq_true c_this)
  rw [s0]
  unfold e_t108_0
  simp [zq_a, zq_b, zq_c, zq_d, zq_e, zq_f, zq_g, zq_h, zq_i, zq_j, zq_k, zq_l, zq_m, zq_n, zq_o, zq_p, zq_q, zq_r, zq_s, zq_t, zq_u, zq_v, zq_w, zq_x, zq_y, zq_z, zq_A, zq_B, zq_C, zq_D, zq_E, zq_F, zq_G, zq_H, zq_I, zq_J, zq_K, zq_L, ↓zq_M, ↓zq_N, ↓zq_O, ↓zq_P, ↓zq_Q, ↓zq_R, zq_S, zq_T, zq_U, zq_V, zq_W, zq_X, zq_Y, zq_Z, zq_0, zq_1, zq_2, zq_3, zq_4, zq_5, ↓zq_6, ↓zq_7, ↓zq_8, ↓zq_9, ↓zq_aa, zq_ab, zq_ac, zq_ad, zq_ae, zq_af, zq_ag, ↓zq_ah, ↓zq_ai, ↓zq_aj, zq_ak, ↓zq_al, ↓zq_am, e_b1, e_b2, x_o1, x_o2, i, j]
theorem h_108c {p v : Int} {M : EM} (c : 0 ≤ p ∧ p < M 10 0) (h : p < 40) (k : M 11 p.toNat = 0) (hv : v = 0 ∨ v = 1) : E_C 108 [8, p, v] M = some (if M 22 p.toNat = v then 0 else 1, e_up M 22 p.toNat v) := by
  have i : E_C 149 [8, p] M = some (1, M) := h_149.trans (congrArg some (congrArg (·, M) (if_pos c)))
  have j : E_C 150 [8, p, 0] M = some (1, M) := (h_150 ⟨c.1, h⟩).trans (congrArg some (congrArg (·, M) (if_pos k)))
  have t : ∀ M, E_C 146 [22, p] M = some (M 22 p.toNat, M) := fun M => p_at (a := 22) (n := 40) (by decide +kernel) ⟨c.1, by omega⟩ M
  have l : ∀ v M, E_C 147 [22, p, v] M = some (0, e_up M 22 p.toNat v) := fun v M => p_layd (a := 22) (n := 40) (by decide +kernel) ⟨c.1, by omega⟩ M
  have s0 : E_C 108 [8, p, v] M = e_tv E_C (E_V 108) e_t108_0 [8, p, v, 0, 0] M := r_ent (u := 108) (as := [8, p, v]) (M := M) (decide_eq_true c_this)
  rw [s0]
  unfold e_t108_0
  rcases hv with hv | hv
  · subst hv
    by_cases e : M 22 p.toNat = 0
    · rw [if_pos e]
      simp [zq_a, zq_b, zq_c, zq_d, zq_e, zq_f, zq_g, zq_h, zq_i, zq_j, zq_k, zq_l, zq_m, zq_n, zq_o, zq_p, zq_q, zq_r, zq_s, zq_t, zq_u, zq_v, zq_w, zq_x, zq_y, zq_z, zq_A, zq_B, zq_C, zq_D, zq_E, zq_F, zq_G, zq_H, zq_I, zq_J, zq_K, zq_L, ↓zq_M, ↓zq_N, ↓zq_O, ↓zq_P, ↓zq_Q, ↓zq_R, zq_S, zq_T, zq_U, zq_V, zq_W, zq_X, zq_Y, zq_Z, zq_0, zq_1, zq_2, zq_3, zq_4, zq_5, ↓zq_6, ↓zq_7, ↓zq_8, ↓zq_9, ↓zq_aa, zq_ab, zq_ac, zq_ad, zq_ae, zq_af, zq_ag, ↓zq_ah, ↓zq_ai, ↓zq_aj, zq_ak, ↓zq_al, ↓zq_am, e_b1, e_b2, x_o1, x_o2, p_704, w_H1, w_C3, i, j, t, l, e]
    · rw [if_neg e]
      simp [zq_a, zq_b, zq_c, zq_d, zq_e, zq_f, zq_g, zq_h, zq_i, zq_j, zq_k, zq_l, zq_m, zq_n, zq_o, zq_p, zq_q, zq_r, zq_s, zq_t, zq_u, zq_v, zq_w, zq_x, zq_y, zq_z, zq_A, zq_B, zq_C, zq_D, zq_E, zq_F, zq_G, zq_H, zq_I, zq_J, zq_K, zq_L, ↓zq_M, ↓zq_N, ↓zq_O, ↓zq_P, ↓zq_Q, ↓zq_R, zq_S, zq_T, zq_U, zq_V, zq_W, zq_X, zq_Y, zq_Z, zq_0, zq_1, zq_2, zq_3, zq_4, zq_5, ↓zq_6, ↓zq_7, ↓zq_8, ↓zq_9, ↓zq_aa, zq_ab, zq_ac, zq_ad, zq_ae, zq_af, zq_ag, ↓zq_ah, ↓zq_ai, ↓zq_aj, zq_ak, ↓zq_al, ↓zq_am, e_b1, e_b2, x_o1, x_o2, p_704, w_H1, w_C3, i, j, t, l, e]
  · subst hv
    by_cases e : M 22 p.toNat = 1
    · rw [if_pos e]
      simp [zq_a, zq_b, zq_c, zq_d, zq_e, zq_f, zq_g, zq_h, zq_i, zq_j, zq_k, zq_l, zq_m, zq_n, zq_o, zq_p, zq_q, zq_r, zq_s, zq_t, zq_u, zq_v, zq_w, zq_x, zq_y, zq_z, zq_A, zq_B, zq_C, zq_D, zq_E, zq_F, zq_G, zq_H, zq_I, zq_J, zq_K, zq_L, ↓zq_M, ↓zq_N, ↓zq_O, ↓zq_P, ↓zq_Q, ↓zq_R, zq_S, zq_T, zq_U, zq_V, zq_W, zq_X, zq_Y, zq_Z, zq_0, zq_1, zq_2, zq_3, zq_4, zq_5, ↓zq_6, ↓zq_7, ↓zq_8, ↓zq_9, ↓zq_aa, zq_ab, zq_ac, zq_ad, zq_ae, zq_af, zq_ag, ↓zq_ah, ↓zq_ai, ↓zq_aj, zq_ak, ↓zq_al, ↓zq_am, e_b1, e_b2, x_o1, x_o2, p_704, w_H1, w_C3, i, j, t, l, e]
    · rw [if_neg e]
      simp [zq_a, zq_b, zq_c, zq_d, zq_e, zq_f, zq_g, zq_h, zq_i, zq_j, zq_k, zq_l, zq_m, zq_n, zq_o, zq_p, zq_q, zq_r, zq_s, zq_t, zq_u, zq_v, zq_w, zq_x, zq_y, zq_z, zq_A, zq_B, zq_C, zq_D, zq_E, zq_F, zq_G, zq_H, zq_I, zq_J, zq_K, zq_L, ↓zq_M, ↓zq_N, ↓zq_O, ↓zq_P, ↓zq_Q, ↓zq_R, zq_S, zq_T, zq_U, zq_V, zq_W, zq_X, zq_Y, zq_Z, zq_0, zq_1, zq_2, zq_3, zq_4, zq_5, ↓zq_6, ↓zq_7, ↓zq_8, ↓zq_9, ↓zq_aa, zq_ab, zq_ac, zq_ad, zq_ae, zq_af, zq_ag, ↓zq_ah, ↓zq_ai, ↓zq_aj, zq_ak, ↓zq_al, ↓zq_am, e_b1, e_b2, x_o1, x_o2, p_704, w_H1, w_C3, i, j, t, l, e]
theorem h_197a {p v : Int} {M : EM} (ip : E_C 169 [192, p] M = some (0, M)) : E_C 197 [192, p, v] M = some (-1, M) := by
  rw [r_ent (show e_rok 197 [192, p, v] = true from decide_eq_true r_ref)]
  show e_tv E_C (E_V 197) e_t197_0 [192, p, v, 0] M = _
  unfold e_t197_0
  simp [zq_a, zq_b, zq_c, zq_d, zq_e, zq_f, zq_g, zq_h, zq_i, zq_j, zq_k, zq_l, zq_m, zq_n, zq_o, zq_p, zq_q, zq_r, zq_s, zq_t, zq_u, zq_v, zq_w, zq_x, zq_y, zq_z, zq_A, zq_B, zq_C, zq_D, zq_E, zq_F, zq_G, zq_H, zq_I, zq_J, zq_K, zq_L, ↓zq_M, ↓zq_N, ↓zq_O, ↓zq_P, ↓zq_Q, ↓zq_R, zq_S, zq_T, zq_U, zq_V, zq_W, zq_X, zq_Y, zq_Z, zq_0, zq_1, zq_2, zq_3, zq_4, zq_5, ↓zq_6, ↓zq_7, ↓zq_8, ↓zq_9, ↓zq_aa, zq_ab, zq_ac, zq_ad, zq_ae, zq_af, zq_ag, ↓zq_ah, ↓zq_ai, ↓zq_aj, zq_ak, ↓zq_al, ↓zq_am, e_b1, e_b2, x_o1, x_o2, ip]
theorem h_197b {p v k : Int} {M : EM} (ip : E_C 169 [192, p] M = some (1, M)) (kk : E_C 170 [192, p] M = some (k, M)) (hk : k ≠ 0) : E_C 197 [192, p, v] M = some (-3, M) := by
  rw [r_ent (show e_rok 197 [192, p, v] = true from decide_eq_true r_ref)]
  show e_tv E_C (E_V 197) e_t197_0 [192, p, v, 0] M = _
  unfold e_t197_0
  simp [zq_a, zq_b, zq_c, zq_d, zq_e, zq_f, zq_g, zq_h, zq_i, zq_j, zq_k, zq_l, zq_m, zq_n, zq_o, zq_p, zq_q, zq_r, zq_s, zq_t, zq_u, zq_v, zq_w, zq_x, zq_y, zq_z, zq_A, zq_B, zq_C, zq_D, zq_E, zq_F, zq_G, zq_H, zq_I, zq_J, zq_K, zq_L, ↓zq_M, ↓zq_N, ↓zq_O, ↓zq_P, ↓zq_Q, ↓zq_R, zq_S, zq_T, zq_U, zq_V, zq_W, zq_X, zq_Y, zq_Z, zq_0, zq_1, zq_2, zq_3, zq_4, zq_5, ↓zq_6, ↓zq_7, ↓zq_8, ↓zq_9, ↓zq_aa, zq_ab, zq_ac, zq_ad, zq_ae, zq_af, zq_ag, ↓zq_ah, ↓zq_ai, ↓zq_aj, zq_ak, ↓zq_al, ↓zq_am, e_b1, e_b2, x_o1, x_o2, ip, kk, hk]
theorem h_197c {p v z : Int} {M : EM} (h : 0 ≤ p ∧ p < 40) (ip : E_C 169 [192, p] M = some (1, M)) (kk : E_C 170 [192, p] M = some (0, M)) (hz : r_G M (28 * p + 19) = z) (h1 : z = 0 ∨ z = 1) (hv : v = 0 ∨ v = 1) : E_C 197 [192, p, v] M = some (if z = v then 0 else 1, e_up M 193 (28 * p + 19).toNat v) := by
  have w1 : e_w (28 * p) = 28 * p := a_w_id (by omega) (by omega)
  have w2 : e_w (28 * p + 19) = 28 * p + 19 := a_w_id (by omega) (by omega)
  have l1 : e_op 60 [193, 28 * p + 19] M = some z := (r_rd (by omega) (by omega)).trans (congrArg some hz)
  have st := fun v => r_stw (i := 28 * p + 19) (v := v) (M := M) (by omega) (by omega)
  rw [r_ent (show e_rok 197 [192, p, v] = true from decide_eq_true r_ref)]
  show e_tv E_C (E_V 197) e_t197_0 [192, p, v, 0] M = _
  unfold e_t197_0
  rcases hv with hv | hv
  · subst hv
    rcases h1 with h1 | h1
    · subst h1
      simp [zq_a, zq_b, zq_c, zq_d, zq_e, zq_f, zq_g, zq_h, zq_i, zq_j, zq_k, zq_l, zq_m, zq_n, zq_o, zq_p, zq_q, zq_r, zq_s, zq_t, zq_u, zq_v, zq_w, zq_x, zq_y, zq_z, zq_A, zq_B, zq_C, zq_D, zq_E, zq_F, zq_G, zq_H, zq_I, zq_J, zq_K, zq_L, ↓zq_M, ↓zq_N, ↓zq_O, ↓zq_P, ↓zq_Q, ↓zq_R, zq_S, zq_T, zq_U, zq_V, zq_W, zq_X, zq_Y, zq_Z, zq_0, zq_1, zq_2, zq_3, zq_4, zq_5, ↓zq_6, ↓zq_7, ↓zq_8, ↓zq_9, ↓zq_aa, zq_ab, zq_ac, zq_ad, zq_ae, zq_af, zq_ag, ↓zq_ah, ↓zq_ai, ↓zq_aj, zq_ak, ↓zq_al, ↓zq_am, e_b1, e_b2, x_o1, x_o2, r_O0, ip, kk, w1, w2, l1, st]
    · subst h1
      simp [zq_a, zq_b, zq_c, zq_d, zq_e, zq_f, zq_g, zq_h, zq_i, zq_j, zq_k, zq_l, zq_m, zq_n, zq_o, zq_p, zq_q, zq_r, zq_s, zq_t, zq_u, zq_v, zq_w, zq_x, zq_y, zq_z, zq_A, zq_B, zq_C, zq_D, zq_E, zq_F, zq_G, zq_H, zq_I, zq_J, zq_K, zq_L, ↓zq_M, ↓zq_N, ↓zq_O, ↓zq_P, ↓zq_Q, ↓zq_R, zq_S, zq_T, zq_U, zq_V, zq_W, zq_X, zq_Y, zq_Z, zq_0, zq_1, zq_2, zq_3, zq_4, zq_5, ↓zq_6, ↓zq_7, ↓zq_8, ↓zq_9, ↓zq_aa, zq_ab, zq_ac, zq_ad, zq_ae, zq_af, zq_ag, ↓zq_ah, ↓zq_ai, ↓zq_aj, zq_ak, ↓zq_al, ↓zq_am, e_b1, e_b2, x_o1, x_o2, r_O0, ip, kk, w1, w2, l1, st]
  · subst hv
    rcases h1 with h1 | h1
    · subst h1
      simp [zq_a, zq_b, zq_c, zq_d, zq_e, zq_f, zq_g, zq_h, zq_i, zq_j, zq_k, zq_l, zq_m, zq_n, zq_o, zq_p, zq_q, zq_r, zq_s, zq_t, zq_u, zq_v, zq_w, zq_x, zq_y, zq_z, zq_A, zq_B, zq_C, zq_D, zq_E, zq_F, zq_G, zq_H, zq_I, zq_J, zq_K, zq_L, ↓zq_M, ↓zq_N, ↓zq_O, ↓zq_P, ↓zq_Q, ↓zq_R, zq_S, zq_T, zq_U, zq_V, zq_W, zq_X, zq_Y, zq_Z, zq_0, zq_1, zq_2, zq_3, zq_4, zq_5, ↓zq_6, ↓zq_7, ↓zq_8, ↓zq_9, ↓zq_aa, zq_ab, zq_ac, zq_ad, zq_ae, zq_af, zq_ag, ↓zq_ah, ↓zq_ai, ↓zq_aj, zq_ak, ↓zq_al, ↓zq_am, e_b1, e_b2, x_o1, x_o2, r_O0, ip, kk, w1, w2, l1, st]
    · subst h1
      simp [zq_a, zq_b, zq_c, zq_d, zq_e, zq_f, zq_g, zq_h, zq_i, zq_j, zq_k, zq_l, zq_m, zq_n, zq_o, zq_p, zq_q, zq_r, zq_s, zq_t, zq_u, zq_v, zq_w, zq_x, zq_y, zq_z, zq_A, zq_B, zq_C, zq_D, zq_E, zq_F, zq_G, zq_H, zq_I, zq_J, zq_K, zq_L, ↓zq_M, ↓zq_N, ↓zq_O, ↓zq_P, ↓zq_Q, ↓zq_R, zq_S, zq_T, zq_U, zq_V, zq_W, zq_X, zq_Y, zq_Z, zq_0, zq_1, zq_2, zq_3, zq_4, zq_5, ↓zq_6, ↓zq_7, ↓zq_8, ↓zq_9, ↓zq_aa, zq_ab, zq_ac, zq_ad, zq_ae, zq_af, zq_ag, ↓zq_ah, ↓zq_ai, ↓zq_aj, zq_ak, ↓zq_al, ↓zq_am, e_b1, e_b2, x_o1, x_o2, r_O0, ip, kk, w1, w2, l1, st]
theorem h_deads {p v r1 r2 : Int} {M M1 M2 : EM} (J1 : r_J M1) (hB : h_B M 0 (r_G M)) (hC : h_C M 0 (r_G M)) (hv : v = 0 ∨ v = 1) (hfr : ∀ i, M1 193 i = M 193 i) (k1 : E_C 108 [8, p, v] M = some (r1, M1)) (k2 : E_C 197 [192, p, v] M1 = some (r2, M2)) : r1 = r2 ∧ h_C M2 0 (r_G M2) := by
  have eG1 : r_G M1 = r_G M := funext fun i => hfr _
  have hW1 := (r_J_E J1).2.1
  have h10 := hB.1
  by_cases c : 0 ≤ p ∧ p < M 10 0
  · have cg : 0 ≤ p ∧ p < r_G M1 1198 := by rw [eG1, ← h10]; exact c
    have h40 := r_40 hW1 cg
    obtain ⟨q, hq⟩ : ∃ q : Nat, p = q := ⟨p.toNat, by omega⟩
    subst hq
    have hqn : (q : Int) < r_G M 1198 := by rw [← h10]; exact c.2
    have b := hB.2.2 q hqn
    have cq := hC q hqn
    have ip := r_ip1 hW1 cg
    have kk : E_C 170 [192, (q : Int)] M1 = some (r_G M1 (28 * (q : Int)), M1) := r_kind h40
    rw [eG1] at kk
    have kq : M 11 (q : Int).toNat = r_G M (28 * (q : Int)) := b.1
    by_cases k0 : r_G M (28 * (q : Int)) = 0
    · obtain ⟨e1, e2⟩ := Prod.mk.inj (Option.some.inj (k1.symm.trans (h_108c c h40.2 (kq.trans k0) hv)))
      obtain ⟨d1, ⟨d2, d3⟩, d4⟩ := cq k0
      rw [k0] at kk
      have hz : r_G M1 (28 * (q : Int) + 19) = r_G M (28 * (q : Int) + 19) := congrFun eG1 _
      obtain ⟨f1, f2⟩ := Prod.mk.inj (Option.some.inj (k2.symm.trans (h_197c h40 ip kk hz d3 hv)))
      refine ⟨?_, ?_⟩
      · rw [e1, f1, show M 22 (q : Int).toNat = r_G M (28 * (q : Int) + 19) from d2]
      · have g2 : ∀ x, 0 ≤ x → x ≠ 28 * (q : Int) + 19 → r_G M2 x = r_G M x := fun x x0 hx => by
          rw [f2]
          show e_up M1 193 _ v 193 x.toNat = _
          rw [c_up_n (by omega)]
          exact hfr _
        have m2 : ∀ id k, id ≠ 193 → ¬ (id = 22 ∧ k = q) → M2 id k = M id k := fun id k h1 h2 => by
          rw [f2, c_up_n (by omega), e2]
          exact c_up_n (by rw [Int.toNat_natCast]; exact h2)
        intro t ht
        rw [g2 1198 (by decide) (by omega)] at ht
        by_cases ct : t = q
        · subst ct
          intro _
          have gt : r_G M2 (28 * (t : Int) + 19) = v := by rw [f2]; exact c_up_s
          have mt : M2 22 t = v := by rw [f2, c_up_n (by omega), e2]; exact c_up_s
          have hs : ∀ d : Int, 15 ≤ d → d ≤ 24 → d ≠ 19 → r_G M2 (28 * (t : Int) + d) = r_G M (28 * (t : Int) + d) := fun d d0 d1 d9 => g2 _ (by omega) (by omega)
          refine ⟨fun a ha => ?_, ?_, ?_⟩
          · have := hs (15 + (a : Int)) (by omega) (by omega) (by omega)
            rw [show 28 * (t : Int) + (15 + (a : Int)) = 28 * (t : Int) + 15 + (a : Int) by omega] at this
            rw [this, m2 _ _ (by decide) (by omega)]
            exact d1 a ha
          · rw [gt, mt]
            exact ⟨rfl, hv⟩
          · rw [hs 20 (by decide) (by decide) (by decide), hs 21 (by decide) (by decide) (by decide), hs 22 (by decide) (by decide) (by decide), hs 23 (by decide) (by decide) (by decide), hs 24 (by decide) (by decide) (by decide), m2 (23 + 0) _ (by decide) (by omega), m2 (24 + 0) _ (by decide) (by omega)]
            exact d4
        · exact h_Cq_cg (hC t ht) (g2 _ (by omega) (by omega)) (fun d d0 d1 => g2 _ (by omega) (by omega)) (fun a _ => m2 _ _ (by decide) (by omega)) (m2 _ _ (by decide) (by omega)) (m2 _ _ (by decide) (by omega)) (m2 _ _ (by decide) (by omega))
    · obtain ⟨e1, e2⟩ := Prod.mk.inj (Option.some.inj (k1.symm.trans (h_108b c h40.2 (fun e => k0 (kq.symm.trans e)))))
      obtain ⟨f1, f2⟩ := Prod.mk.inj (Option.some.inj (k2.symm.trans (h_197b ip kk k0)))
      refine ⟨e1.trans f1.symm, ?_⟩
      rw [f2, e2]
      exact hC
  · obtain ⟨e1, e2⟩ := Prod.mk.inj (Option.some.inj (k1.symm.trans (h_108a c)))
    have cg : ¬ (0 ≤ p ∧ p < r_G M1 1198) := by rw [eG1, ← h10]; exact c
    obtain ⟨f1, f2⟩ := Prod.mk.inj (Option.some.inj (k2.symm.trans (h_197a (r_ip0 hW1 cg))))
    refine ⟨e1.trans f1.symm, ?_⟩
    rw [f2, e2]
    exact hC
end
section
/-! lies: the two answers; what is told of CELLS stays related -/
theorem h_153 {v : Int} {M : EM} (hv : v ≤ 2147483647) : E_C 153 [v] M = some (if 0 ≤ v ∧ v / 100 < 20 ∧ v % 100 < 12 then 1 else 0, M) := by
  rw [r_ent (show e_rok 153 [v] = true from rfl)]
  show e_tv E_C (E_V 153) e_t153_0 [v] M = _
  unfold e_t153_0
  rcases x_le 0 v with ⟨c0, c0_n⟩ | ⟨c0, c0_n⟩
  · obtain ⟨e1, e2⟩ := r_sq (v := v) (c := 100) ⟨c0, hv⟩ (by decide)
    rcases x_lt (v / 100) 20 with ⟨c1, c1_n⟩ | ⟨c1, c1_n⟩
    · rcases x_lt (v % 100) 12 with ⟨c2, c2_n⟩ | ⟨c2, c2_n⟩
      · rw [if_pos ⟨c0, c1, c2⟩]
        simp [zq_a, zq_b, zq_c, zq_d, zq_e, zq_f, zq_g, zq_h, zq_i, zq_j, zq_k, zq_l, zq_m, zq_n, zq_o, zq_p, zq_q, zq_r, zq_s, zq_t, zq_u, zq_v, zq_w, zq_x, zq_y, zq_z, zq_A, zq_B, zq_C, zq_D, zq_E, zq_F, zq_G, zq_H, zq_I, zq_J, zq_K, zq_L, ↓zq_M, ↓zq_N, ↓zq_O, ↓zq_P, ↓zq_Q, ↓zq_R, zq_S, zq_T, zq_U, zq_V, zq_W, zq_X, zq_Y, zq_Z, zq_0, zq_1, zq_2, zq_3, zq_4, zq_5, ↓zq_6, ↓zq_7, ↓zq_8, ↓zq_9, ↓zq_aa, zq_ab, zq_ac, zq_ad, zq_ae, zq_af, zq_ag, ↓zq_ah, ↓zq_ai, ↓zq_aj, zq_ak, ↓zq_al, ↓zq_am, e_b1, e_b2, x_o1, x_o2, c0, c0_n, e1, e2, c1, c1_n, c2, c2_n]
      · rw [if_neg (fun h => c2 h.2.2)]
        simp [zq_a, zq_b, zq_c, zq_d, zq_e, zq_f, zq_g, zq_h, zq_i, zq_j, zq_k, zq_l, zq_m, zq_n, zq_o, zq_p, zq_q, zq_r, zq_s, zq_t, zq_u, zq_v, zq_w, zq_x, zq_y, zq_z, zq_A, zq_B, zq_C, zq_D, zq_E, zq_F, zq_G, zq_H, zq_I, zq_J, zq_K, zq_L, ↓zq_M, ↓zq_N, ↓zq_O, ↓zq_P, ↓zq_Q, ↓zq_R, zq_S, zq_T, zq_U, zq_V, zq_W, zq_X, zq_Y, zq_Z, zq_0, zq_1, zq_2, zq_3, zq_4, zq_5, ↓zq_6, ↓zq_7, ↓zq_8, ↓zq_9, ↓zq_aa, zq_ab, zq_ac, zq_ad, zq_ae, zq_af, zq_ag, ↓zq_ah, ↓zq_ai, ↓zq_aj, zq_ak, ↓zq_al, ↓zq_am, e_b1, e_b2, x_o1, x_o2, c0, c0_n, e1, e2, c1, c1_n, c2, c2_n]
    · rw [if_neg (fun h => c1 h.2.1)]
      simp [zq_a, zq_b, zq_c, zq_d, zq_e, zq_f, zq_g, zq_h, zq_i, zq_j, zq_k, zq_l, zq_m, zq_n, zq_o, zq_p, zq_q, zq_r, zq_s, zq_t, zq_u, zq_v, zq_w, zq_x, zq_y, zq_z, zq_A, zq_B, zq_C, zq_D, zq_E, zq_F, zq_G, zq_H, zq_I, zq_J, zq_K, zq_L, ↓zq_M, ↓zq_N, ↓zq_O, ↓zq_P, ↓zq_Q, ↓zq_R, zq_S, zq_T, zq_U, zq_V, zq_W, zq_X, zq_Y, zq_Z, zq_0, zq_1, zq_2, zq_3, zq_4, zq_5, ↓zq_6, ↓zq_7, ↓zq_8, ↓zq_9, ↓zq_aa, zq_ab, zq_ac, zq_ad, zq_ae, zq_af, zq_ag, ↓zq_ah, ↓zq_ai, ↓zq_aj, zq_ak, ↓zq_al, ↓zq_am, e_b1, e_b2, x_o1, x_o2, c0, c0_n, e1, c1, c1_n]
  · rw [if_neg (fun h => c0 h.1)]
    simp [zq_a, zq_b, zq_c, zq_d, zq_e, zq_f, zq_g, zq_h, zq_i, zq_j, zq_k, zq_l, zq_m, zq_n, zq_o, zq_p, zq_q, zq_r, zq_s, zq_t, zq_u, zq_v, zq_w, zq_x, zq_y, zq_z, zq_A, zq_B, zq_C, zq_D, zq_E, zq_F, zq_G, zq_H, zq_I, zq_J, zq_K, zq_L, ↓zq_M, ↓zq_N, ↓zq_O, ↓zq_P, ↓zq_Q, ↓zq_R, zq_S, zq_T, zq_U, zq_V, zq_W, zq_X, zq_Y, zq_Z, zq_0, zq_1, zq_2, zq_3, zq_4, zq_5, ↓zq_6, ↓zq_7, ↓zq_8, ↓zq_9, ↓zq_aa, zq_ab, zq_ac, zq_ad, zq_ae, zq_af, zq_ag, ↓zq_ah, ↓zq_ai, ↓zq_aj, zq_ak, ↓zq_al, ↓zq_am, e_b1, e_b2, x_o1, x_o2, c0, c0_n]
def h_Lq (f t : Int) : Prop := (0 ≤ f ∧ f / 100 < 20 ∧ f % 100 < 12) ∧ (0 ≤ t ∧ t / 100 < 20 ∧ t % 100 < 12) ∧ f / 100 ≤ t / 100 ∧ f % 100 ≤ t % 100
theorem h_117s {p f t : Int} {M : EM} : E_C 117 [8, p, f, t] M = e_tv E_C (E_V 117) e_t117_0 [8, p, f, t] M := r_ent (u := 117) (as := [8, p, f, t]) (M := M) (decide_eq_true c_this)
/-- refused alike: class -/
theorem h_117a {p f t i : Int} {M : EM} (ip : E_C 149 [8, p] M = some (i, M)) (hf : f ≤ 2147483647) (ht : t ≤ 2147483647) (h : i = 0 ∨ ¬ h_Lq f t) : E_C 117 [8, p, f, t] M = some (-1, M) := by
  rw [h_117s]
  unfold e_t117_0
  by_cases c : i = 0
  · simp [zq_a, zq_b, zq_c, zq_d, zq_e, zq_f, zq_g, zq_h, zq_i, zq_j, zq_k, zq_l, zq_m, zq_n, zq_o, zq_p, zq_q, zq_r, zq_s, zq_t, zq_u, zq_v, zq_w, zq_x, zq_y, zq_z, zq_A, zq_B, zq_C, zq_D, zq_E, zq_F, zq_G, zq_H, zq_I, zq_J, zq_K, zq_L, ↓zq_M, ↓zq_N, ↓zq_O, ↓zq_P, ↓zq_Q, ↓zq_R, zq_S, zq_T, zq_U, zq_V, zq_W, zq_X, zq_Y, zq_Z, zq_0, zq_1, zq_2, zq_3, zq_4, zq_5, ↓zq_6, ↓zq_7, ↓zq_8, ↓zq_9, ↓zq_aa, zq_ab, zq_ac, zq_ad, zq_ae, zq_af, zq_ag, ↓zq_ah, ↓zq_ai, ↓zq_aj, zq_ak, ↓zq_al, ↓zq_am, e_b1, e_b2, x_o1, x_o2, ip, c]
  · have k1 := h_153 (M := M) hf
    have k2 := h_153 (M := M) ht
    have h := h.resolve_left c
    by_cases q1 : 0 ≤ f ∧ f / 100 < 20 ∧ f % 100 < 12
    · rw [if_pos q1] at k1
      obtain ⟨e1, e2⟩ := r_sq (v := f) (c := 100) ⟨q1.1, hf⟩ (by decide)
      by_cases q2 : 0 ≤ t ∧ t / 100 < 20 ∧ t % 100 < 12
      · rw [if_pos q2] at k2
        obtain ⟨e3, e4⟩ := r_sq (v := t) (c := 100) ⟨q2.1, ht⟩ (by decide)
        rcases x_le (f / 100) (t / 100) with ⟨q3, q3_n⟩ | ⟨q3, q3_n⟩
        · have q4 : t % 100 < f % 100 := by
            refine Int.not_le.mp fun e => h ⟨q1, q2, q3, e⟩
          simp [zq_a, zq_b, zq_c, zq_d, zq_e, zq_f, zq_g, zq_h, zq_i, zq_j, zq_k, zq_l, zq_m, zq_n, zq_o, zq_p, zq_q, zq_r, zq_s, zq_t, zq_u, zq_v, zq_w, zq_x, zq_y, zq_z, zq_A, zq_B, zq_C, zq_D, zq_E, zq_F, zq_G, zq_H, zq_I, zq_J, zq_K, zq_L, ↓zq_M, ↓zq_N, ↓zq_O, ↓zq_P, ↓zq_Q, ↓zq_R, zq_S, zq_T, zq_U, zq_V, zq_W, zq_X, zq_Y, zq_Z, zq_0, zq_1, zq_2, zq_3, zq_4, zq_5, ↓zq_6, ↓zq_7, ↓zq_8, ↓zq_9, ↓zq_aa, zq_ab, zq_ac, zq_ad, zq_ae, zq_af, zq_ag, ↓zq_ah, ↓zq_ai, ↓zq_aj, zq_ak, ↓zq_al, ↓zq_am, e_b1, e_b2, x_o1, x_o2, ip, c, k1, k2, e1, e2, e3, e4, q3, q3_n, q4]
        · simp [zq_a, zq_b, zq_c, zq_d, zq_e, zq_f, zq_g, zq_h, zq_i, zq_j, zq_k, zq_l, zq_m, zq_n, zq_o, zq_p, zq_q, zq_r, zq_s, zq_t, zq_u, zq_v, zq_w, zq_x, zq_y, zq_z, zq_A, zq_B, zq_C, zq_D, zq_E, zq_F, zq_G, zq_H, zq_I, zq_J, zq_K, zq_L, ↓zq_M, ↓zq_N, ↓zq_O, ↓zq_P, ↓zq_Q, ↓zq_R, zq_S, zq_T, zq_U, zq_V, zq_W, zq_X, zq_Y, zq_Z, zq_0, zq_1, zq_2, zq_3, zq_4, zq_5, ↓zq_6, ↓zq_7, ↓zq_8, ↓zq_9, ↓zq_aa, zq_ab, zq_ac, zq_ad, zq_ae, zq_af, zq_ag, ↓zq_ah, ↓zq_ai, ↓zq_aj, zq_ak, ↓zq_al, ↓zq_am, e_b1, e_b2, x_o1, x_o2, ip, c, k1, k2, e1, e3, q3, q3_n]
      · rw [if_neg q2] at k2
        simp [zq_a, zq_b, zq_c, zq_d, zq_e, zq_f, zq_g, zq_h, zq_i, zq_j, zq_k, zq_l, zq_m, zq_n, zq_o, zq_p, zq_q, zq_r, zq_s, zq_t, zq_u, zq_v, zq_w, zq_x, zq_y, zq_z, zq_A, zq_B, zq_C, zq_D, zq_E, zq_F, zq_G, zq_H, zq_I, zq_J, zq_K, zq_L, ↓zq_M, ↓zq_N, ↓zq_O, ↓zq_P, ↓zq_Q, ↓zq_R, zq_S, zq_T, zq_U, zq_V, zq_W, zq_X, zq_Y, zq_Z, zq_0, zq_1, zq_2, zq_3, zq_4, zq_5, ↓zq_6, ↓zq_7, ↓zq_8, ↓zq_9, ↓zq_aa, zq_ab, zq_ac, zq_ad, zq_ae, zq_af, zq_ag, ↓zq_ah, ↓zq_ai, ↓zq_aj, zq_ak, ↓zq_al, ↓zq_am, e_b1, e_b2, x_o1, x_o2, ip, c, k1, k2]
    · rw [if_neg q1] at k1
      simp [zq_a, zq_b, zq_c, zq_d, zq_e, zq_f, zq_g, zq_h, zq_i, zq_j, zq_k, zq_l, zq_m, zq_n, zq_o, zq_p, zq_q, zq_r, zq_s, zq_t, zq_u, zq_v, zq_w, zq_x, zq_y, zq_z, zq_A, zq_B, zq_C, zq_D, zq_E, zq_F, zq_G, zq_H, zq_I, zq_J, zq_K, zq_L, ↓zq_M, ↓zq_N, ↓zq_O, ↓zq_P, ↓zq_Q, ↓zq_R, zq_S, zq_T, zq_U, zq_V, zq_W, zq_X, zq_Y, zq_Z, zq_0, zq_1, zq_2, zq_3, zq_4, zq_5, ↓zq_6, ↓zq_7, ↓zq_8, ↓zq_9, ↓zq_aa, zq_ab, zq_ac, zq_ad, zq_ae, zq_af, zq_ag, ↓zq_ah, ↓zq_ai, ↓zq_aj, zq_ak, ↓zq_al, ↓zq_am, e_b1, e_b2, x_o1, x_o2, ip, c, k1]
theorem h_219a {p f t i : Int} {M : EM} (ip : E_C 169 [192, p] M = some (i, M)) (hf : f ≤ 2147483647) (ht : t ≤ 2147483647) (h : i = 0 ∨ ¬ h_Lq f t) : E_C 219 [192, p, f, t] M = some (-1, M) := by
  rw [r_ent (show e_rok 219 [192, p, f, t] = true from decide_eq_true r_ref)]
  show e_tv E_C (E_V 219) e_t219_0 [192, p, f, t, 0] M = _
  unfold e_t219_0
  by_cases c : i = 0
  · simp [zq_a, zq_b, zq_c, zq_d, zq_e, zq_f, zq_g, zq_h, zq_i, zq_j, zq_k, zq_l, zq_m, zq_n, zq_o, zq_p, zq_q, zq_r, zq_s, zq_t, zq_u, zq_v, zq_w, zq_x, zq_y, zq_z, zq_A, zq_B, zq_C, zq_D, zq_E, zq_F, zq_G, zq_H, zq_I, zq_J, zq_K, zq_L, ↓zq_M, ↓zq_N, ↓zq_O, ↓zq_P, ↓zq_Q, ↓zq_R, zq_S, zq_T, zq_U, zq_V, zq_W, zq_X, zq_Y, zq_Z, zq_0, zq_1, zq_2, zq_3, zq_4, zq_5, ↓zq_6, ↓zq_7, ↓zq_8, ↓zq_9, ↓zq_aa, zq_ab, zq_ac, zq_ad, zq_ae, zq_af, zq_ag, ↓zq_ah, ↓zq_ai, ↓zq_aj, zq_ak, ↓zq_al, ↓zq_am, e_b1, e_b2, x_o1, x_o2, ip, c]
  · have k1 := r_isSquare (M := M) hf
    have k2 := r_isSquare (M := M) ht
    have h := h.resolve_left c
    by_cases q1 : 0 ≤ f ∧ f / 100 < 20 ∧ f % 100 < 12
    · rw [if_pos q1] at k1
      obtain ⟨e1, e2⟩ := r_sq (v := f) (c := 100) ⟨q1.1, hf⟩ (by decide)
      by_cases q2 : 0 ≤ t ∧ t / 100 < 20 ∧ t % 100 < 12
      · rw [if_pos q2] at k2
        obtain ⟨e3, e4⟩ := r_sq (v := t) (c := 100) ⟨q2.1, ht⟩ (by decide)
        rcases x_le (f / 100) (t / 100) with ⟨q3, q3_n⟩ | ⟨q3, q3_n⟩
        · have q4 : t % 100 < f % 100 := by
            refine Int.not_le.mp fun e => h ⟨q1, q2, q3, e⟩
          simp [zq_a, zq_b, zq_c, zq_d, zq_e, zq_f, zq_g, zq_h, zq_i, zq_j, zq_k, zq_l, zq_m, zq_n, zq_o, zq_p, zq_q, zq_r, zq_s, zq_t, zq_u, zq_v, zq_w, zq_x, zq_y, zq_z, zq_A, zq_B, zq_C, zq_D, zq_E, zq_F, zq_G, zq_H, zq_I, zq_J, zq_K, zq_L, ↓zq_M, ↓zq_N, ↓zq_O, ↓zq_P, ↓zq_Q, ↓zq_R, zq_S, zq_T, zq_U, zq_V, zq_W, zq_X, zq_Y, zq_Z, zq_0, zq_1, zq_2, zq_3, zq_4, zq_5, ↓zq_6, ↓zq_7, ↓zq_8, ↓zq_9, ↓zq_aa, zq_ab, zq_ac, zq_ad, zq_ae, zq_af, zq_ag, ↓zq_ah, ↓zq_ai, ↓zq_aj, zq_ak, ↓zq_al, ↓zq_am, e_b1, e_b2, x_o1, x_o2, ip, c, k1, k2, e1, e2, e3, e4, q3, q3_n, q4]
        · simp [zq_a, zq_b, zq_c, zq_d, zq_e, zq_f, zq_g, zq_h, zq_i, zq_j, zq_k, zq_l, zq_m, zq_n, zq_o, zq_p, zq_q, zq_r, zq_s, zq_t, zq_u, zq_v, zq_w, zq_x, zq_y, zq_z, zq_A, zq_B, zq_C, zq_D, zq_E, zq_F, zq_G, zq_H, zq_I, zq_J, zq_K, zq_L, ↓zq_M, ↓zq_N, ↓zq_O, ↓zq_P, ↓zq_Q, ↓zq_R, zq_S, zq_T, zq_U, zq_V, zq_W, zq_X, zq_Y, zq_Z, zq_0, zq_1, zq_2, zq_3, zq_4, zq_5, ↓zq_6, ↓zq_7, ↓zq_8, ↓zq_9, ↓zq_aa, zq_ab, zq_ac, zq_ad, zq_ae, zq_af, zq_ag, ↓zq_ah, ↓zq_ai, ↓zq_aj, zq_ak, ↓zq_al, ↓zq_am, e_b1, e_b2, x_o1, x_o2, ip, c, k1, k2, e1, e3, q3, q3_n]
      · rw [if_neg q2] at k2
        simp [zq_a, zq_b, zq_c, zq_d, zq_e, zq_f, zq_g, zq_h, zq_i, zq_j, zq_k, zq_l, zq_m, zq_n, zq_o, zq_p, zq_q, zq_r, zq_s, zq_t, zq_u, zq_v, zq_w, zq_x, zq_y, zq_z, zq_A, zq_B, zq_C, zq_D, zq_E, zq_F, zq_G, zq_H, zq_I, zq_J, zq_K, zq_L, ↓zq_M, ↓zq_N, ↓zq_O, ↓zq_P, ↓zq_Q, ↓zq_R, zq_S, zq_T, zq_U, zq_V, zq_W, zq_X, zq_Y, zq_Z, zq_0, zq_1, zq_2, zq_3, zq_4, zq_5, ↓zq_6, ↓zq_7, ↓zq_8, ↓zq_9, ↓zq_aa, zq_ab, zq_ac, zq_ad, zq_ae, zq_af, zq_ag, ↓zq_ah, ↓zq_ai, ↓zq_aj, zq_ak, ↓zq_al, ↓zq_am, e_b1, e_b2, x_o1, x_o2, ip, c, k1, k2]
    · rw [if_neg q1] at k1
      simp [zq_a, zq_b, zq_c, zq_d, zq_e, zq_f, zq_g, zq_h, zq_i, zq_j, zq_k, zq_l, zq_m, zq_n, zq_o, zq_p, zq_q, zq_r, zq_s, zq_t, zq_u, zq_v, zq_w, zq_x, zq_y, zq_z, zq_A, zq_B, zq_C, zq_D, zq_E, zq_F, zq_G, zq_H, zq_I, zq_J, zq_K, zq_L, ↓zq_M, ↓zq_N, ↓zq_O, ↓zq_P, ↓zq_Q, ↓zq_R, zq_S, zq_T, zq_U, zq_V, zq_W, zq_X, zq_Y, zq_Z, zq_0, zq_1, zq_2, zq_3, zq_4, zq_5, ↓zq_6, ↓zq_7, ↓zq_8, ↓zq_9, ↓zq_aa, zq_ab, zq_ac, zq_ad, zq_ae, zq_af, zq_ag, ↓zq_ah, ↓zq_ai, ↓zq_aj, zq_ak, ↓zq_al, ↓zq_am, e_b1, e_b2, x_o1, x_o2, ip, c, k1]
theorem h_117b {p f t : Int} {M : EM} (ip : E_C 149 [8, p] M = some (1, M)) (j : E_C 150 [8, p, 0] M = some (0, M)) (hf : f ≤ 2147483647) (ht : t ≤ 2147483647) (h : h_Lq f t) : E_C 117 [8, p, f, t] M = some (-3, M) := by
  obtain ⟨q1, q2, q3, q4⟩ := h
  have k1 := h_153 (M := M) hf
  have k2 := h_153 (M := M) ht
  rw [if_pos q1] at k1
  rw [if_pos q2] at k2
  obtain ⟨e1, e2⟩ := r_sq (v := f) (c := 100) ⟨q1.1, hf⟩ (by decide)
  obtain ⟨e3, e4⟩ := r_sq (v := t) (c := 100) ⟨q2.1, ht⟩ (by decide)
  have q5 : ¬ t % 100 < f % 100 := Int.not_lt.mpr q4
  rw [h_117s]
  unfold e_t117_0
  simp [zq_a, zq_b, zq_c, zq_d, zq_e, zq_f, zq_g, zq_h, zq_i, zq_j, zq_k, zq_l, zq_m, zq_n, zq_o, zq_p, zq_q, zq_r, zq_s, zq_t, zq_u, zq_v, zq_w, zq_x, zq_y, zq_z, zq_A, zq_B, zq_C, zq_D, zq_E, zq_F, zq_G, zq_H, zq_I, zq_J, zq_K, zq_L, ↓zq_M, ↓zq_N, ↓zq_O, ↓zq_P, ↓zq_Q, ↓zq_R, zq_S, zq_T, zq_U, zq_V, zq_W, zq_X, zq_Y, zq_Z, zq_0, zq_1, zq_2, zq_3, zq_4, zq_5, ↓zq_6, ↓zq_7, ↓zq_8, ↓zq_9, ↓zq_aa, zq_ab, zq_ac, zq_ad, zq_ae, zq_af, zq_ag, ↓zq_ah, ↓zq_ai, ↓zq_aj, zq_ak, ↓zq_al, ↓zq_am, e_b1, e_b2, x_o1, x_o2, ip, j, k1, k2, e1, e2, e3, e4, q3, q4, q5]
theorem h_219b {p f t k : Int} {M : EM} (ip : E_C 169 [192, p] M = some (1, M)) (kk : E_C 170 [192, p] M = some (k, M)) (hk : k ≠ 0) (hf : f ≤ 2147483647) (ht : t ≤ 2147483647) (h : h_Lq f t) : E_C 219 [192, p, f, t] M = some (-3, M) := by
  obtain ⟨q1, q2, q3, q4⟩ := h
  have k1 := r_isSquare (M := M) hf
  have k2 := r_isSquare (M := M) ht
  rw [if_pos q1] at k1
  rw [if_pos q2] at k2
  obtain ⟨e1, e2⟩ := r_sq (v := f) (c := 100) ⟨q1.1, hf⟩ (by decide)
  obtain ⟨e3, e4⟩ := r_sq (v := t) (c := 100) ⟨q2.1, ht⟩ (by decide)
  have q5 : ¬ t % 100 < f % 100 := Int.not_lt.mpr q4
  rw [r_ent (show e_rok 219 [192, p, f, t] = true from decide_eq_true r_ref)]
  show e_tv E_C (E_V 219) e_t219_0 [192, p, f, t, 0] M = _
  unfold e_t219_0
  simp [zq_a, zq_b, zq_c, zq_d, zq_e, zq_f, zq_g, zq_h, zq_i, zq_j, zq_k, zq_l, zq_m, zq_n, zq_o, zq_p, zq_q, zq_r, zq_s, zq_t, zq_u, zq_v, zq_w, zq_x, zq_y, zq_z, zq_A, zq_B, zq_C, zq_D, zq_E, zq_F, zq_G, zq_H, zq_I, zq_J, zq_K, zq_L, ↓zq_M, ↓zq_N, ↓zq_O, ↓zq_P, ↓zq_Q, ↓zq_R, zq_S, zq_T, zq_U, zq_V, zq_W, zq_X, zq_Y, zq_Z, zq_0, zq_1, zq_2, zq_3, zq_4, zq_5, ↓zq_6, ↓zq_7, ↓zq_8, ↓zq_9, ↓zq_aa, zq_ab, zq_ac, zq_ad, zq_ae, zq_af, zq_ag, ↓zq_ah, ↓zq_ai, ↓zq_aj, zq_ak, ↓zq_al, ↓zq_am, e_b1, e_b2, x_o1, x_o2, ip, kk, hk, k1, k2, e1, e2, e3, e4, q3, q4, q5]
theorem h_117c {p f t : Int} {M : EM} (hp : 0 ≤ p ∧ p < 40) (ip : E_C 149 [8, p] M = some (1, M)) (j : E_C 150 [8, p, 0] M = some (1, M)) (hf : f ≤ 2147483647) (ht : t ≤ 2147483647) (h : h_Lq f t) : E_C 117 [8, p, f, t] M = some (e_w (e_w (e_w (t / 100 - f / 100) + 1) * e_w (e_w (t % 100 - f % 100) + 1)), e_up (e_up M 23 p.toNat f) 24 p.toNat t) := by
  obtain ⟨q1, q2, q3, q4⟩ := h
  have k1 := h_153 (M := M) hf
  have k2 := h_153 (M := M) ht
  rw [if_pos q1] at k1
  rw [if_pos q2] at k2
  obtain ⟨e1, e2⟩ := r_sq (v := f) (c := 100) ⟨q1.1, hf⟩ (by decide)
  obtain ⟨e3, e4⟩ := r_sq (v := t) (c := 100) ⟨q2.1, ht⟩ (by decide)
  have q5 : ¬ t % 100 < f % 100 := Int.not_lt.mpr q4
  have l1 : ∀ v M, E_C 147 [23, p, v] M = some (0, e_up M 23 p.toNat v) := fun v M => p_layd (a := 23) (n := 40) (by decide +kernel) ⟨hp.1, by omega⟩ M
  have l2 : ∀ v M, E_C 147 [24, p, v] M = some (0, e_up M 24 p.toNat v) := fun v M => p_layd (a := 24) (n := 40) (by decide +kernel) ⟨hp.1, by omega⟩ M
  rw [h_117s]
  unfold e_t117_0
  simp [zq_a, zq_b, zq_c, zq_d, zq_e, zq_f, zq_g, zq_h, zq_i, zq_j, zq_k, zq_l, zq_m, zq_n, zq_o, zq_p, zq_q, zq_r, zq_s, zq_t, zq_u, zq_v, zq_w, zq_x, zq_y, zq_z, zq_A, zq_B, zq_C, zq_D, zq_E, zq_F, zq_G, zq_H, zq_I, zq_J, zq_K, zq_L, ↓zq_M, ↓zq_N, ↓zq_O, ↓zq_P, ↓zq_Q, ↓zq_R, zq_S, zq_T, zq_U, zq_V, zq_W, zq_X, zq_Y, zq_Z, zq_0, zq_1, zq_2, zq_3, zq_4, zq_5, ↓zq_6, ↓zq_7, ↓zq_8, ↓zq_9, ↓zq_aa, zq_ab, zq_ac, zq_ad, zq_ae, zq_af, zq_ag, ↓zq_ah, ↓zq_ai, ↓zq_aj, zq_ak, ↓zq_al, ↓zq_am, e_b1, e_b2, x_o1, x_o2, p_704, w_H1, w_C4, w_C5, ip, j, k1, k2, e1, e2, e3, e4, q3, q4, q5, l1, l2]
theorem h_219c {p f t : Int} {M : EM} (h40 : 0 ≤ p ∧ p < 40) (ip : E_C 169 [192, p] M = some (1, M)) (kk : E_C 170 [192, p] M = some (0, M)) (hf : f ≤ 2147483647) (ht : t ≤ 2147483647) (h : h_Lq f t) : E_C 219 [192, p, f, t] M = some (e_w (e_w (e_w (t / 100 - f / 100) + 1) * e_w (e_w (t % 100 - f % 100) + 1)), r_lay5 M p (f / 100) (f % 100) (t / 100) (t % 100)) := by
  obtain ⟨q1, q2, q3, q4'⟩ := h
  have k1 := r_isSquare (M := M) hf
  have k2 := r_isSquare (M := M) ht
  rw [if_pos q1] at k1
  rw [if_pos q2] at k2
  obtain ⟨e1, e2⟩ := r_sq (v := f) (c := 100) ⟨q1.1, hf⟩ (by decide)
  obtain ⟨e3, e4⟩ := r_sq (v := t) (c := 100) ⟨q2.1, ht⟩ (by decide)
  have q4 : ¬ t % 100 < f % 100 := Int.not_lt.mpr q4'
  have w1 : e_w (28 * p) = 28 * p := a_w_id (by omega) (by omega)
  have w2 : e_w (28 * p + 20) = 28 * p + 20 := a_w_id (by omega) (by omega)
  have v1 : e_w (28 * p + 20 + 1) = 28 * p + 20 + 1 := a_w_id (by omega) (by omega)
  have v2 : e_w (28 * p + 20 + 2) = 28 * p + 20 + 2 := a_w_id (by omega) (by omega)
  have v3 : e_w (28 * p + 20 + 3) = 28 * p + 20 + 3 := a_w_id (by omega) (by omega)
  have v4 : e_w (28 * p + 20 + 4) = 28 * p + 20 + 4 := a_w_id (by omega) (by omega)
  have s0 := fun v M => r_stw (i := 28 * p + 20) (v := v) (M := M) (by omega) (by omega)
  have s1 := fun v M => r_stw (i := 28 * p + 20 + 1) (v := v) (M := M) (by omega) (by omega)
  have s2 := fun v M => r_stw (i := 28 * p + 20 + 2) (v := v) (M := M) (by omega) (by omega)
  have s3 := fun v M => r_stw (i := 28 * p + 20 + 3) (v := v) (M := M) (by omega) (by omega)
  have s4 := fun v M => r_stw (i := 28 * p + 20 + 4) (v := v) (M := M) (by omega) (by omega)
  have d1 := fun M => r_rd (i := 28 * p + 20 + 1) (M := M) (by omega) (by omega)
  have d2 := fun M => r_rd (i := 28 * p + 20 + 2) (M := M) (by omega) (by omega)
  have d3 := fun M => r_rd (i := 28 * p + 20 + 3) (M := M) (by omega) (by omega)
  have d4 := fun M => r_rd (i := 28 * p + 20 + 4) (M := M) (by omega) (by omega)
  have hg := r_lay5_G (M := M) (p := p) (a := f / 100) (b := f % 100) (c := t / 100) (d := t % 100) h40
  obtain ⟨g0, g1, g2, g3, g4, -⟩ := hg
  unfold r_lay5 at g1 g2 g3 g4 ⊢
  rw [r_ent (show e_rok 219 [192, p, f, t] = true from decide_eq_true r_ref)]
  show e_tv E_C (E_V 219) e_t219_0 [192, p, f, t, 0] M = _
  unfold e_t219_0
  simp [zq_a, zq_b, zq_c, zq_d, zq_e, zq_f, zq_g, zq_h, zq_i, zq_j, zq_k, zq_l, zq_m, zq_n, zq_o, zq_p, zq_q, zq_r, zq_s, zq_t, zq_u, zq_v, zq_w, zq_x, zq_y, zq_z, zq_A, zq_B, zq_C, zq_D, zq_E, zq_F, zq_G, zq_H, zq_I, zq_J, zq_K, zq_L, ↓zq_M, ↓zq_N, ↓zq_O, ↓zq_P, ↓zq_Q, ↓zq_R, zq_S, zq_T, zq_U, zq_V, zq_W, zq_X, zq_Y, zq_Z, zq_0, zq_1, zq_2, zq_3, zq_4, zq_5, ↓zq_6, ↓zq_7, ↓zq_8, ↓zq_9, ↓zq_aa, zq_ab, zq_ac, zq_ad, zq_ae, zq_af, zq_ag, ↓zq_ah, ↓zq_ai, ↓zq_aj, zq_ak, ↓zq_al, ↓zq_am, e_b1, e_b2, x_o1, x_o2, r_O0, ip, kk, k1, k2, e1, e2, e3, e4, q3, q4, w1, w2, v1, v2, v3, v4, s0, s1, s2, s3, s4, d1, d2, d3, d4, g1, g2, g3, g4]
end
section
/-! lies: the pair -/
theorem h_liess {p f t r1 r2 : Int} {M M1 M2 : EM} (J1 : r_J M1) (hB : h_B M 0 (r_G M)) (hC : h_C M 0 (r_G M)) (hf : f ≤ 2147483647) (ht : t ≤ 2147483647) (hfr : ∀ i, M1 193 i = M 193 i) (k1 : E_C 117 [8, p, f, t] M = some (r1, M1)) (k2 : E_C 219 [192, p, f, t] M1 = some (r2, M2)) : r1 = r2 ∧ h_C M2 0 (r_G M2) := by
  have eG1 : r_G M1 = r_G M := funext fun i => hfr _
  have hW1 := (r_J_E J1).2.1
  have h10 := hB.1
  by_cases c : 0 ≤ p ∧ p < M 10 0
  · have cg : 0 ≤ p ∧ p < r_G M1 1198 := by rw [eG1, ← h10]; exact c
    have i : E_C 149 [8, p] M = some (1, M) := h_149.trans (congrArg some (congrArg (·, M) (if_pos c)))
    have ip := r_ip1 hW1 cg
    by_cases hL : h_Lq f t
    · have h40 := r_40 hW1 cg
      obtain ⟨q, hq⟩ : ∃ q : Nat, p = q := ⟨p.toNat, by omega⟩
      subst hq
      have hqn : (q : Int) < r_G M 1198 := by rw [← h10]; exact c.2
      have b := hB.2.2 q hqn
      have cq := hC q hqn
      have kk : E_C 170 [192, (q : Int)] M1 = some (r_G M1 (28 * (q : Int)), M1) := r_kind h40
      rw [eG1] at kk
      have kq : M 11 (q : Int).toNat = r_G M (28 * (q : Int)) := b.1
      by_cases k0 : r_G M (28 * (q : Int)) = 0
      · have j : E_C 150 [8, (q : Int), 0] M = some (1, M) := (h_150 h40).trans (congrArg some (congrArg (·, M) (if_pos (kq.trans k0))))
        obtain ⟨e1, e2⟩ := Prod.mk.inj (Option.some.inj (k1.symm.trans (h_117c h40 i j hf ht hL)))
        obtain ⟨d1, d2, d4⟩ := cq k0
        rw [k0] at kk
        obtain ⟨f1, f2⟩ := Prod.mk.inj (Option.some.inj (k2.symm.trans (h_219c h40 ip kk hf ht hL)))
        refine ⟨e1.trans f1.symm, ?_⟩
        obtain ⟨g0, g1, g2, g3, g4, g5⟩ := r_lay5_G (M := M1) (p := (q : Int)) (a := f / 100) (b := f % 100) (c := t / 100) (d := t % 100) h40
        rw [← f2] at g0 g1 g2 g3 g4 g5
        rw [eG1] at g5
        have m1 : ∀ id k, id ≠ 193 → M2 id k = M1 id k := fun id k h1 => by
          rw [f2]
          unfold r_lay5
          rw [r_n193 h1, r_n193 h1, r_n193 h1, r_n193 h1, r_n193 h1]
        have m2 : ∀ id k, id ≠ 193 → ¬ (id = 23 ∧ k = q) → ¬ (id = 24 ∧ k = q) → M2 id k = M id k := fun id k h1 h2 h3 => by
          rw [m1 id k h1, e2, Int.toNat_natCast, c_up_n h3, c_up_n h2]
        have m23 : M2 23 q = f := by rw [m1 _ _ (by decide), e2, Int.toNat_natCast, c_up_n (by omega), c_up_s]
        have m24 : M2 24 q = t := by rw [m1 _ _ (by decide), e2, Int.toNat_natCast, c_up_s]
        have n0 : r_G M2 1198 = r_G M 1198 := g5 _ (by omega)
        intro z hz
        rw [n0] at hz
        by_cases ct : z = q
        · subst ct
          intro _
          refine ⟨fun a ha => ?_, ?_, Or.inr ⟨g0, ?_, ?_⟩⟩
          · rw [g5 _ (by omega), m2 _ _ (by decide) (by omega) (by omega)]
            exact d1 a ha
          · rw [g5 (28 * (z : Int) + 19) (by omega), m2 (22 + 0) _ (by decide) (by omega) (by omega)]
            exact d2
          · have e1' : r_G M2 (28 * (z : Int) + 21) = f / 100 := by rw [← g1]; exact congrArg (r_G M2) (by omega)
            have e2' : r_G M2 (28 * (z : Int) + 22) = f % 100 := by rw [← g2]; exact congrArg (r_G M2) (by omega)
            rw [e1', e2']
            show M2 23 z = _
            rw [m23]
            omega
          · have e1' : r_G M2 (28 * (z : Int) + 23) = t / 100 := by rw [← g3]; exact congrArg (r_G M2) (by omega)
            have e2' : r_G M2 (28 * (z : Int) + 24) = t % 100 := by rw [← g4]; exact congrArg (r_G M2) (by omega)
            rw [e1', e2']
            show M2 24 z = _
            rw [m24]
            omega
        · exact h_Cq_cg (hC z hz) (g5 _ (by omega)) (fun d d0 d1 => g5 _ (by omega)) (fun a _ => m2 _ _ (by decide) (by omega) (by omega)) (m2 _ _ (by decide) (by omega) (by omega)) (m2 _ _ (by decide) (by omega) (by omega)) (m2 _ _ (by decide) (by omega) (by omega))
      · have j : E_C 150 [8, (q : Int), 0] M = some (0, M) := (h_150 h40).trans (congrArg some (congrArg (·, M) (if_neg (fun e => k0 (kq.symm.trans e)))))
        obtain ⟨e1, e2⟩ := Prod.mk.inj (Option.some.inj (k1.symm.trans (h_117b i j hf ht hL)))
        obtain ⟨f1, f2⟩ := Prod.mk.inj (Option.some.inj (k2.symm.trans (h_219b ip kk k0 hf ht hL)))
        refine ⟨e1.trans f1.symm, ?_⟩
        rw [f2, e2]
        exact hC
    · obtain ⟨e1, e2⟩ := Prod.mk.inj (Option.some.inj (k1.symm.trans (h_117a i hf ht (Or.inr hL))))
      obtain ⟨f1, f2⟩ := Prod.mk.inj (Option.some.inj (k2.symm.trans (h_219a ip hf ht (Or.inr hL))))
      refine ⟨e1.trans f1.symm, ?_⟩
      rw [f2, e2]
      exact hC
  · have i : E_C 149 [8, p] M = some (0, M) := h_149.trans (congrArg some (congrArg (·, M) (if_neg c)))
    have cg : ¬ (0 ≤ p ∧ p < r_G M1 1198) := by rw [eG1, ← h10]; exact c
    obtain ⟨e1, e2⟩ := Prod.mk.inj (Option.some.inj (k1.symm.trans (h_117a i hf ht (Or.inl rfl))))
    obtain ⟨f1, f2⟩ := Prod.mk.inj (Option.some.inj (k2.symm.trans (h_219a (r_ip0 hW1 cg) hf ht (Or.inl rfl))))
    refine ⟨e1.trans f1.symm, ?_⟩
    rw [f2, e2]
    exact hC
end
