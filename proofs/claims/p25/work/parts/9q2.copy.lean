/-! a HOUSE over another: the class's image and restore, exactly -/
def p_dir (so to : Nat) : Prop := (so = 0 ∧ to = 68) ∨ (so = 68 ∧ to = 0)
/-- what D says (of the live HOUSE's cells) has been taken over, from those so further on to those to further on; nothing else is written -/
def p_C (so to : Nat) (D : AW) (M0 M : EM) : Prop := (∀ w ∈ D, ∀ k, w.2.1 ≤ k → k ≤ w.2.2 → M (w.1 + to) k = M0 (w.1 + so) k) ∧ (∀ id k, (∀ w ∈ D, ¬ (id = w.1 + to ∧ w.2.1 ≤ k ∧ k ≤ w.2.2)) → M id k = M0 id k) ∧ ∀ w ∈ D, 10 ≤ w.1 ∧ w.1 ≤ 76
theorem p_C_0 {so to : Nat} {M : EM} : p_C so to [] M M := ⟨fun w hw => (by cases hw), fun _ _ _ => rfl, fun w hw => (by cases hw)⟩
theorem p_C_src {so to id : Nat} {D : AW} {M0 M : EM} (hd : p_dir so to) (hi : 10 ≤ id ∧ id ≤ 76) (h : p_C so to D M0 M) (k : Nat) : M (id + so) k = M0 (id + so) k := h.2.1 _ _ (fun w hw hc => by
  have := h.2.2 w hw
  unfold p_dir at hd
  omega)
theorem p_C_row {so to id n : Nat} {D : AW} {M0 M : EM} (hd : p_dir so to) (hi : 10 ≤ id ∧ id ≤ 76) (hn : 0 < n) (h : p_C so to D M0 M) : p_C so to ((id, 0, n - 1) :: D) M0 (e_cpm M (id + so) 0 (id + to) 0 n) := by
  have hsrc := p_C_src hd hi h
  obtain ⟨h1, h2, h3⟩ := h
  refine ⟨fun w hw k k0 k1 => ?_, fun i k hk => ?_, fun w hw => ?_⟩
  · unfold e_cpm
    by_cases c : w.1 + to = id + to ∧ 0 ≤ k ∧ k < 0 + n
    · rw [if_pos c, hsrc]
      have e : w.1 = id := by omega
      rw [e]
      congr 1
      omega
    · rw [if_neg c]
      rcases List.mem_cons.mp hw with e | hw
      · subst e
        exact absurd ⟨rfl, Nat.zero_le _, by dsimp only at k1; omega⟩ c
      · exact h1 w hw k k0 k1
  · unfold e_cpm
    rw [if_neg (fun c => hk _ List.mem_cons_self ⟨c.1, Nat.zero_le _, by have := c.2.2; dsimp only; omega⟩)]
    exact h2 i k (fun w hw hc => hk w (List.mem_cons_of_mem _ hw) hc)
  · rcases List.mem_cons.mp hw with e | hw
    · subst e
      exact hi
    · exact h3 w hw
theorem p_C_cell {so to id j : Nat} {D : AW} {M0 M : EM} (hd : p_dir so to) (hi : 10 ≤ id ∧ id ≤ 76) (h : p_C so to D M0 M) : p_C so to ((id, j, j) :: D) M0 (e_up M (id + to) j (M (id + so) j)) := by
  have hsrc := p_C_src hd hi h
  obtain ⟨h1, h2, h3⟩ := h
  refine ⟨fun w hw k k0 k1 => ?_, fun i k hk => ?_, fun w hw => ?_⟩
  · by_cases c : w.1 + to = id + to ∧ k = j
    · have e : w.1 = id := by omega
      rw [e, c.2, c_up_s, hsrc]
    · rw [c_up_n c]
      rcases List.mem_cons.mp hw with e | hw
      · subst e
        exact absurd ⟨rfl, by dsimp only at k0 k1; omega⟩ c
      · exact h1 w hw k k0 k1
  · rw [c_up_n (fun c => hk _ List.mem_cons_self ⟨c.1, by dsimp only; omega, by dsimp only; omega⟩)]
    exact h2 i k (fun w hw hc => hk w (List.mem_cons_of_mem _ hw) hc)
  · rcases List.mem_cons.mp hw with e | hw
    · subst e
      exact hi
    · exact h3 w hw
theorem p_co {a b : Int} {n : Nat} (ha : 8 ≤ a ∧ a.toNat < e_N ∧ e_sh a.toNat = (100, n)) (hb : 8 ≤ b ∧ b.toNat < e_N ∧ e_sh b.toNat = (100, n)) (M : EM) : E_C 148 [a, b] M = some (0, e_cpm M a.toNat 0 b.toNat 0 n) := by
  obtain ⟨a1, a2, a3⟩ := ha
  obtain ⟨b1, b2, b3⟩ := hb
  rw [r_ent (show e_rok 148 [a, b] = true from rfl)]
  show e_tv E_C (E_V 148) e_t148_0 [a, b] M = _
  unfold e_t148_0
  have za : e_sz M a.toNat = n := (if_neg (show ¬ a.toNat = 0 by omega)).trans (by rw [a3])
  have zb : e_sz M b.toNat = n := (if_neg (show ¬ b.toNat = 0 by omega)).trans (by rw [b3])
  have na : ¬ (a = -1) := by omega
  have nb : ¬ (b = -1) := by omega
  have a0 : 0 ≤ a := by omega
  have b0 : 0 ≤ b := by omega
  have hcp : e_cp [a, 0, b, 0, (n : Int)] M = some (e_cpm M a.toNat 0 b.toNat 0 n) := by
    have h : e_isO 100 b ∧ e_isO 100 a ∧ (0 : Int) ≤ 0 ∧ (0 : Int) ≤ 0 ∧ (0 : Int) ≤ (n : Int) ∧ (0 : Int) + n ≤ (e_sh a.toNat).2 ∧ (0 : Int) + n ≤ (e_sh b.toNat).2 := by
      refine ⟨⟨by omega, b2, by rw [b3]⟩, ⟨by omega, a2, by rw [a3]⟩, by omega, by omega, by omega, ?_, ?_⟩
      · rw [a3]; dsimp only; omega
      · rw [b3]; dsimp only; omega
    exact (if_pos h).trans (by rw [Int.toNat_natCast]; rfl)
  simp [zq_a, zq_b, zq_c, zq_d, zq_e, zq_f, zq_g, zq_h, zq_i, zq_j, zq_k, zq_l, zq_m, zq_n, zq_o, zq_p, zq_q, zq_r, zq_s, zq_t, zq_u, zq_v, zq_w, zq_x, zq_y, zq_z, zq_A, zq_B, zq_C, zq_D, zq_E, zq_F, zq_G, zq_H, zq_I, zq_J, zq_K, zq_L, ↓zq_M, ↓zq_N, ↓zq_O, ↓zq_P, ↓zq_Q, ↓zq_R, zq_S, zq_T, zq_U, zq_V, zq_W, zq_X, zq_Y, zq_Z, zq_0, zq_1, zq_2, zq_3, zq_4, zq_5, ↓zq_6, ↓zq_7, ↓zq_8, ↓zq_9, ↓zq_aa, zq_ab, zq_ac, zq_ad, zq_ae, zq_af, zq_ag, ↓zq_ah, ↓zq_ai, ↓zq_aj, zq_ak, ↓zq_al, ↓zq_am, e_op, e_b1, e_b2, na, nb, a0, b0, za, zb, a2, a3, b2, b3, hcp]

def p_D51 : AW := (17, 0, 319) :: (16, 0, 319) :: (15, 0, 319) :: (14, 0, 39) :: (13, 0, 39) :: (12, 0, 39) :: (11, 0, 39) :: (10, 0, 0) :: []
theorem p_51i (M : EM) : ∃ M1, E_C 51 [78, 10] M = some (0, M1) ∧ p_C 0 68 p_D51 M M1 := by
  have hd : p_dir 0 68 := by unfold p_dir; decide
  have f0 : ∀ M, e_gf 256 [10] M = some (M 10 0) := fun M => c_gf (by decide +kernel) (by decide +kernel)
  have w0 : ∀ v M, e_pf 256 [78, v] M = some (e_up M 78 0 v) := fun v M => c_pf (by decide +kernel) (by decide +kernel)
  have g1 : ∀ M, e_gf 257 [10] M = some 11 := fun M => p_g 257 10 11 M (by decide +kernel)
  have h1 : ∀ M, e_gf 257 [78] M = some 79 := fun M => p_g 257 78 79 M (by decide +kernel)
  have c1 : ∀ M, E_C 148 [11, 79] M = some (0, e_cpm M 11 0 79 0 40) := fun M => p_co (n := 40) (by decide +kernel) (by decide +kernel) M
  have g2 : ∀ M, e_gf 258 [10] M = some 12 := fun M => p_g 258 10 12 M (by decide +kernel)
  have h2 : ∀ M, e_gf 258 [78] M = some 80 := fun M => p_g 258 78 80 M (by decide +kernel)
  have c2 : ∀ M, E_C 148 [12, 80] M = some (0, e_cpm M 12 0 80 0 40) := fun M => p_co (n := 40) (by decide +kernel) (by decide +kernel) M
  have g3 : ∀ M, e_gf 259 [10] M = some 13 := fun M => p_g 259 10 13 M (by decide +kernel)
  have h3 : ∀ M, e_gf 259 [78] M = some 81 := fun M => p_g 259 78 81 M (by decide +kernel)
  have c3 : ∀ M, E_C 148 [13, 81] M = some (0, e_cpm M 13 0 81 0 40) := fun M => p_co (n := 40) (by decide +kernel) (by decide +kernel) M
  have g4 : ∀ M, e_gf 260 [10] M = some 14 := fun M => p_g 260 10 14 M (by decide +kernel)
  have h4 : ∀ M, e_gf 260 [78] M = some 82 := fun M => p_g 260 78 82 M (by decide +kernel)
  have c4 : ∀ M, E_C 148 [14, 82] M = some (0, e_cpm M 14 0 82 0 40) := fun M => p_co (n := 40) (by decide +kernel) (by decide +kernel) M
  have g5 : ∀ M, e_gf 261 [10] M = some 15 := fun M => p_g 261 10 15 M (by decide +kernel)
  have h5 : ∀ M, e_gf 261 [78] M = some 83 := fun M => p_g 261 78 83 M (by decide +kernel)
  have c5 : ∀ M, E_C 148 [15, 83] M = some (0, e_cpm M 15 0 83 0 320) := fun M => p_co (n := 320) (by decide +kernel) (by decide +kernel) M
  have g6 : ∀ M, e_gf 262 [10] M = some 16 := fun M => p_g 262 10 16 M (by decide +kernel)
  have h6 : ∀ M, e_gf 262 [78] M = some 84 := fun M => p_g 262 78 84 M (by decide +kernel)
  have c6 : ∀ M, E_C 148 [16, 84] M = some (0, e_cpm M 16 0 84 0 320) := fun M => p_co (n := 320) (by decide +kernel) (by decide +kernel) M
  have g7 : ∀ M, e_gf 263 [10] M = some 17 := fun M => p_g 263 10 17 M (by decide +kernel)
  have h7 : ∀ M, e_gf 263 [78] M = some 85 := fun M => p_g 263 78 85 M (by decide +kernel)
  have c7 : ∀ M, E_C 148 [17, 85] M = some (0, e_cpm M 17 0 85 0 320) := fun M => p_co (n := 320) (by decide +kernel) (by decide +kernel) M
  refine ⟨(e_cpm (e_cpm (e_cpm (e_cpm (e_cpm (e_cpm (e_cpm (e_up M 78 0 (M 10 0)) 11 0 79 0 40) 12 0 80 0 40) 13 0 81 0 40) 14 0 82 0 40) 15 0 83 0 320) 16 0 84 0 320) 17 0 85 0 320), ?_, (p_C_row (so := 0) (to := 68) (id := 17) (n := 320) hd (by decide) (by decide) (p_C_row (so := 0) (to := 68) (id := 16) (n := 320) hd (by decide) (by decide) (p_C_row (so := 0) (to := 68) (id := 15) (n := 320) hd (by decide) (by decide) (p_C_row (so := 0) (to := 68) (id := 14) (n := 40) hd (by decide) (by decide) (p_C_row (so := 0) (to := 68) (id := 13) (n := 40) hd (by decide) (by decide) (p_C_row (so := 0) (to := 68) (id := 12) (n := 40) hd (by decide) (by decide) (p_C_row (so := 0) (to := 68) (id := 11) (n := 40) hd (by decide) (by decide) (p_C_cell (so := 0) (to := 68) (id := 10) (j := 0) hd (by decide) p_C_0))))))))⟩
  rw [r_ent (show e_rok 51 [78, 10] = true by decide +kernel)]
  show e_tv E_C (E_V 51) e_t51_0 [78, 10] M = _
  unfold e_t51_0
  simp [zq_a, zq_b, zq_c, zq_d, zq_e, zq_f, zq_g, zq_h, zq_i, zq_j, zq_k, zq_l, zq_m, zq_n, zq_o, zq_p, zq_q, zq_r, zq_s, zq_t, zq_u, zq_v, zq_w, zq_x, zq_y, zq_z, zq_A, zq_B, zq_C, zq_D, zq_E, zq_F, zq_G, zq_H, zq_I, zq_J, zq_K, zq_L, ↓zq_M, ↓zq_N, ↓zq_O, ↓zq_P, ↓zq_Q, ↓zq_R, zq_S, zq_T, zq_U, zq_V, zq_W, zq_X, zq_Y, zq_Z, zq_0, zq_1, zq_2, zq_3, zq_4, zq_5, ↓zq_6, ↓zq_7, ↓zq_8, ↓zq_9, ↓zq_aa, zq_ab, zq_ac, zq_ad, zq_ae, zq_af, zq_ag, ↓zq_ah, ↓zq_ai, ↓zq_aj, zq_ak, ↓zq_al, ↓zq_am, e_b1, e_b2, x_o1, x_o2, f0, w0, g1, h1, c1, g2, h2, c2, g3, h3, c3, g4, h4, c4, g5, h5, c5, g6, h6, c6, g7, h7, c7]
theorem p_51r (M : EM) : ∃ M1, E_C 51 [10, 78] M = some (0, M1) ∧ p_C 68 0 p_D51 M M1 := by
  have hd : p_dir 68 0 := by unfold p_dir; decide
  have f0 : ∀ M, e_gf 256 [78] M = some (M 78 0) := fun M => c_gf (by decide +kernel) (by decide +kernel)
  have w0 : ∀ v M, e_pf 256 [10, v] M = some (e_up M 10 0 v) := fun v M => c_pf (by decide +kernel) (by decide +kernel)
  have g1 : ∀ M, e_gf 257 [78] M = some 79 := fun M => p_g 257 78 79 M (by decide +kernel)
  have h1 : ∀ M, e_gf 257 [10] M = some 11 := fun M => p_g 257 10 11 M (by decide +kernel)
  have c1 : ∀ M, E_C 148 [79, 11] M = some (0, e_cpm M 79 0 11 0 40) := fun M => p_co (n := 40) (by decide +kernel) (by decide +kernel) M
  have g2 : ∀ M, e_gf 258 [78] M = some 80 := fun M => p_g 258 78 80 M (by decide +kernel)
  have h2 : ∀ M, e_gf 258 [10] M = some 12 := fun M => p_g 258 10 12 M (by decide +kernel)
  have c2 : ∀ M, E_C 148 [80, 12] M = some (0, e_cpm M 80 0 12 0 40) := fun M => p_co (n := 40) (by decide +kernel) (by decide +kernel) M
  have g3 : ∀ M, e_gf 259 [78] M = some 81 := fun M => p_g 259 78 81 M (by decide +kernel)
  have h3 : ∀ M, e_gf 259 [10] M = some 13 := fun M => p_g 259 10 13 M (by decide +kernel)
  have c3 : ∀ M, E_C 148 [81, 13] M = some (0, e_cpm M 81 0 13 0 40) := fun M => p_co (n := 40) (by decide +kernel) (by decide +kernel) M
  have g4 : ∀ M, e_gf 260 [78] M = some 82 := fun M => p_g 260 78 82 M (by decide +kernel)
  have h4 : ∀ M, e_gf 260 [10] M = some 14 := fun M => p_g 260 10 14 M (by decide +kernel)
  have c4 : ∀ M, E_C 148 [82, 14] M = some (0, e_cpm M 82 0 14 0 40) := fun M => p_co (n := 40) (by decide +kernel) (by decide +kernel) M
  have g5 : ∀ M, e_gf 261 [78] M = some 83 := fun M => p_g 261 78 83 M (by decide +kernel)
  have h5 : ∀ M, e_gf 261 [10] M = some 15 := fun M => p_g 261 10 15 M (by decide +kernel)
  have c5 : ∀ M, E_C 148 [83, 15] M = some (0, e_cpm M 83 0 15 0 320) := fun M => p_co (n := 320) (by decide +kernel) (by decide +kernel) M
  have g6 : ∀ M, e_gf 262 [78] M = some 84 := fun M => p_g 262 78 84 M (by decide +kernel)
  have h6 : ∀ M, e_gf 262 [10] M = some 16 := fun M => p_g 262 10 16 M (by decide +kernel)
  have c6 : ∀ M, E_C 148 [84, 16] M = some (0, e_cpm M 84 0 16 0 320) := fun M => p_co (n := 320) (by decide +kernel) (by decide +kernel) M
  have g7 : ∀ M, e_gf 263 [78] M = some 85 := fun M => p_g 263 78 85 M (by decide +kernel)
  have h7 : ∀ M, e_gf 263 [10] M = some 17 := fun M => p_g 263 10 17 M (by decide +kernel)
  have c7 : ∀ M, E_C 148 [85, 17] M = some (0, e_cpm M 85 0 17 0 320) := fun M => p_co (n := 320) (by decide +kernel) (by decide +kernel) M
  refine ⟨(e_cpm (e_cpm (e_cpm (e_cpm (e_cpm (e_cpm (e_cpm (e_up M 10 0 (M 78 0)) 79 0 11 0 40) 80 0 12 0 40) 81 0 13 0 40) 82 0 14 0 40) 83 0 15 0 320) 84 0 16 0 320) 85 0 17 0 320), ?_, (p_C_row (so := 68) (to := 0) (id := 17) (n := 320) hd (by decide) (by decide) (p_C_row (so := 68) (to := 0) (id := 16) (n := 320) hd (by decide) (by decide) (p_C_row (so := 68) (to := 0) (id := 15) (n := 320) hd (by decide) (by decide) (p_C_row (so := 68) (to := 0) (id := 14) (n := 40) hd (by decide) (by decide) (p_C_row (so := 68) (to := 0) (id := 13) (n := 40) hd (by decide) (by decide) (p_C_row (so := 68) (to := 0) (id := 12) (n := 40) hd (by decide) (by decide) (p_C_row (so := 68) (to := 0) (id := 11) (n := 40) hd (by decide) (by decide) (p_C_cell (so := 68) (to := 0) (id := 10) (j := 0) hd (by decide) p_C_0))))))))⟩
  rw [r_ent (show e_rok 51 [10, 78] = true by decide +kernel)]
  show e_tv E_C (E_V 51) e_t51_0 [10, 78] M = _
  unfold e_t51_0
  simp [zq_a, zq_b, zq_c, zq_d, zq_e, zq_f, zq_g, zq_h, zq_i, zq_j, zq_k, zq_l, zq_m, zq_n, zq_o, zq_p, zq_q, zq_r, zq_s, zq_t, zq_u, zq_v, zq_w, zq_x, zq_y, zq_z, zq_A, zq_B, zq_C, zq_D, zq_E, zq_F, zq_G, zq_H, zq_I, zq_J, zq_K, zq_L, ↓zq_M, ↓zq_N, ↓zq_O, ↓zq_P, ↓zq_Q, ↓zq_R, zq_S, zq_T, zq_U, zq_V, zq_W, zq_X, zq_Y, zq_Z, zq_0, zq_1, zq_2, zq_3, zq_4, zq_5, ↓zq_6, ↓zq_7, ↓zq_8, ↓zq_9, ↓zq_aa, zq_ab, zq_ac, zq_ad, zq_ae, zq_af, zq_ag, ↓zq_ah, ↓zq_ai, ↓zq_aj, zq_ak, ↓zq_al, ↓zq_am, e_b1, e_b2, x_o1, x_o2, f0, w0, g1, h1, c1, g2, h2, c2, g3, h3, c3, g4, h4, c4, g5, h5, c5, g6, h6, c6, g7, h7, c7]
def p_D34 : AW := (24, 0, 39) :: (23, 0, 39) :: (22, 0, 39) :: (21, 0, 159) :: (20, 0, 239) :: (19, 0, 239) :: []
theorem p_34i (M : EM) : ∃ M1, E_C 34 [86, 18] M = some (0, M1) ∧ p_C 0 68 p_D34 M M1 := by
  have hd : p_dir 0 68 := by unfold p_dir; decide
  have g0 : ∀ M, e_gf 64 [18] M = some 19 := fun M => p_g 64 18 19 M (by decide +kernel)
  have h0 : ∀ M, e_gf 64 [86] M = some 87 := fun M => p_g 64 86 87 M (by decide +kernel)
  have c0 : ∀ M, E_C 148 [19, 87] M = some (0, e_cpm M 19 0 87 0 240) := fun M => p_co (n := 240) (by decide +kernel) (by decide +kernel) M
  have g1 : ∀ M, e_gf 65 [18] M = some 20 := fun M => p_g 65 18 20 M (by decide +kernel)
  have h1 : ∀ M, e_gf 65 [86] M = some 88 := fun M => p_g 65 86 88 M (by decide +kernel)
  have c1 : ∀ M, E_C 148 [20, 88] M = some (0, e_cpm M 20 0 88 0 240) := fun M => p_co (n := 240) (by decide +kernel) (by decide +kernel) M
  have g2 : ∀ M, e_gf 66 [18] M = some 21 := fun M => p_g 66 18 21 M (by decide +kernel)
  have h2 : ∀ M, e_gf 66 [86] M = some 89 := fun M => p_g 66 86 89 M (by decide +kernel)
  have c2 : ∀ M, E_C 148 [21, 89] M = some (0, e_cpm M 21 0 89 0 160) := fun M => p_co (n := 160) (by decide +kernel) (by decide +kernel) M
  have g3 : ∀ M, e_gf 67 [18] M = some 22 := fun M => p_g 67 18 22 M (by decide +kernel)
  have h3 : ∀ M, e_gf 67 [86] M = some 90 := fun M => p_g 67 86 90 M (by decide +kernel)
  have c3 : ∀ M, E_C 148 [22, 90] M = some (0, e_cpm M 22 0 90 0 40) := fun M => p_co (n := 40) (by decide +kernel) (by decide +kernel) M
  have g4 : ∀ M, e_gf 68 [18] M = some 23 := fun M => p_g 68 18 23 M (by decide +kernel)
  have h4 : ∀ M, e_gf 68 [86] M = some 91 := fun M => p_g 68 86 91 M (by decide +kernel)
  have c4 : ∀ M, E_C 148 [23, 91] M = some (0, e_cpm M 23 0 91 0 40) := fun M => p_co (n := 40) (by decide +kernel) (by decide +kernel) M
  have g5 : ∀ M, e_gf 69 [18] M = some 24 := fun M => p_g 69 18 24 M (by decide +kernel)
  have h5 : ∀ M, e_gf 69 [86] M = some 92 := fun M => p_g 69 86 92 M (by decide +kernel)
  have c5 : ∀ M, E_C 148 [24, 92] M = some (0, e_cpm M 24 0 92 0 40) := fun M => p_co (n := 40) (by decide +kernel) (by decide +kernel) M
  refine ⟨(e_cpm (e_cpm (e_cpm (e_cpm (e_cpm (e_cpm M 19 0 87 0 240) 20 0 88 0 240) 21 0 89 0 160) 22 0 90 0 40) 23 0 91 0 40) 24 0 92 0 40), ?_, (p_C_row (so := 0) (to := 68) (id := 24) (n := 40) hd (by decide) (by decide) (p_C_row (so := 0) (to := 68) (id := 23) (n := 40) hd (by decide) (by decide) (p_C_row (so := 0) (to := 68) (id := 22) (n := 40) hd (by decide) (by decide) (p_C_row (so := 0) (to := 68) (id := 21) (n := 160) hd (by decide) (by decide) (p_C_row (so := 0) (to := 68) (id := 20) (n := 240) hd (by decide) (by decide) (p_C_row (so := 0) (to := 68) (id := 19) (n := 240) hd (by decide) (by decide) p_C_0))))))⟩
  rw [r_ent (show e_rok 34 [86, 18] = true by decide +kernel)]
  show e_tv E_C (E_V 34) e_t34_0 [86, 18] M = _
  unfold e_t34_0
  simp [zq_a, zq_b, zq_c, zq_d, zq_e, zq_f, zq_g, zq_h, zq_i, zq_j, zq_k, zq_l, zq_m, zq_n, zq_o, zq_p, zq_q, zq_r, zq_s, zq_t, zq_u, zq_v, zq_w, zq_x, zq_y, zq_z, zq_A, zq_B, zq_C, zq_D, zq_E, zq_F, zq_G, zq_H, zq_I, zq_J, zq_K, zq_L, ↓zq_M, ↓zq_N, ↓zq_O, ↓zq_P, ↓zq_Q, ↓zq_R, zq_S, zq_T, zq_U, zq_V, zq_W, zq_X, zq_Y, zq_Z, zq_0, zq_1, zq_2, zq_3, zq_4, zq_5, ↓zq_6, ↓zq_7, ↓zq_8, ↓zq_9, ↓zq_aa, zq_ab, zq_ac, zq_ad, zq_ae, zq_af, zq_ag, ↓zq_ah, ↓zq_ai, ↓zq_aj, zq_ak, ↓zq_al, ↓zq_am, e_b1, e_b2, x_o1, x_o2, g0, h0, c0, g1, h1, c1, g2, h2, c2, g3, h3, c3, g4, h4, c4, g5, h5, c5]
theorem p_34r (M : EM) : ∃ M1, E_C 34 [18, 86] M = some (0, M1) ∧ p_C 68 0 p_D34 M M1 := by
  have hd : p_dir 68 0 := by unfold p_dir; decide
  have g0 : ∀ M, e_gf 64 [86] M = some 87 := fun M => p_g 64 86 87 M (by decide +kernel)
  have h0 : ∀ M, e_gf 64 [18] M = some 19 := fun M => p_g 64 18 19 M (by decide +kernel)
  have c0 : ∀ M, E_C 148 [87, 19] M = some (0, e_cpm M 87 0 19 0 240) := fun M => p_co (n := 240) (by decide +kernel) (by decide +kernel) M
  have g1 : ∀ M, e_gf 65 [86] M = some 88 := fun M => p_g 65 86 88 M (by decide +kernel)
  have h1 : ∀ M, e_gf 65 [18] M = some 20 := fun M => p_g 65 18 20 M (by decide +kernel)
  have c1 : ∀ M, E_C 148 [88, 20] M = some (0, e_cpm M 88 0 20 0 240) := fun M => p_co (n := 240) (by decide +kernel) (by decide +kernel) M
  have g2 : ∀ M, e_gf 66 [86] M = some 89 := fun M => p_g 66 86 89 M (by decide +kernel)
  have h2 : ∀ M, e_gf 66 [18] M = some 21 := fun M => p_g 66 18 21 M (by decide +kernel)
  have c2 : ∀ M, E_C 148 [89, 21] M = some (0, e_cpm M 89 0 21 0 160) := fun M => p_co (n := 160) (by decide +kernel) (by decide +kernel) M
  have g3 : ∀ M, e_gf 67 [86] M = some 90 := fun M => p_g 67 86 90 M (by decide +kernel)
  have h3 : ∀ M, e_gf 67 [18] M = some 22 := fun M => p_g 67 18 22 M (by decide +kernel)
  have c3 : ∀ M, E_C 148 [90, 22] M = some (0, e_cpm M 90 0 22 0 40) := fun M => p_co (n := 40) (by decide +kernel) (by decide +kernel) M
  have g4 : ∀ M, e_gf 68 [86] M = some 91 := fun M => p_g 68 86 91 M (by decide +kernel)
  have h4 : ∀ M, e_gf 68 [18] M = some 23 := fun M => p_g 68 18 23 M (by decide +kernel)
  have c4 : ∀ M, E_C 148 [91, 23] M = some (0, e_cpm M 91 0 23 0 40) := fun M => p_co (n := 40) (by decide +kernel) (by decide +kernel) M
  have g5 : ∀ M, e_gf 69 [86] M = some 92 := fun M => p_g 69 86 92 M (by decide +kernel)
  have h5 : ∀ M, e_gf 69 [18] M = some 24 := fun M => p_g 69 18 24 M (by decide +kernel)
  have c5 : ∀ M, E_C 148 [92, 24] M = some (0, e_cpm M 92 0 24 0 40) := fun M => p_co (n := 40) (by decide +kernel) (by decide +kernel) M
  refine ⟨(e_cpm (e_cpm (e_cpm (e_cpm (e_cpm (e_cpm M 87 0 19 0 240) 88 0 20 0 240) 89 0 21 0 160) 90 0 22 0 40) 91 0 23 0 40) 92 0 24 0 40), ?_, (p_C_row (so := 68) (to := 0) (id := 24) (n := 40) hd (by decide) (by decide) (p_C_row (so := 68) (to := 0) (id := 23) (n := 40) hd (by decide) (by decide) (p_C_row (so := 68) (to := 0) (id := 22) (n := 40) hd (by decide) (by decide) (p_C_row (so := 68) (to := 0) (id := 21) (n := 160) hd (by decide) (by decide) (p_C_row (so := 68) (to := 0) (id := 20) (n := 240) hd (by decide) (by decide) (p_C_row (so := 68) (to := 0) (id := 19) (n := 240) hd (by decide) (by decide) p_C_0))))))⟩
  rw [r_ent (show e_rok 34 [18, 86] = true by decide +kernel)]
  show e_tv E_C (E_V 34) e_t34_0 [18, 86] M = _
  unfold e_t34_0
  simp [zq_a, zq_b, zq_c, zq_d, zq_e, zq_f, zq_g, zq_h, zq_i, zq_j, zq_k, zq_l, zq_m, zq_n, zq_o, zq_p, zq_q, zq_r, zq_s, zq_t, zq_u, zq_v, zq_w, zq_x, zq_y, zq_z, zq_A, zq_B, zq_C, zq_D, zq_E, zq_F, zq_G, zq_H, zq_I, zq_J, zq_K, zq_L, ↓zq_M, ↓zq_N, ↓zq_O, ↓zq_P, ↓zq_Q, ↓zq_R, zq_S, zq_T, zq_U, zq_V, zq_W, zq_X, zq_Y, zq_Z, zq_0, zq_1, zq_2, zq_3, zq_4, zq_5, ↓zq_6, ↓zq_7, ↓zq_8, ↓zq_9, ↓zq_aa, zq_ab, zq_ac, zq_ad, zq_ae, zq_af, zq_ag, ↓zq_ah, ↓zq_ai, ↓zq_aj, zq_ak, ↓zq_al, ↓zq_am, e_b1, e_b2, x_o1, x_o2, g0, h0, c0, g1, h1, c1, g2, h2, c2, g3, h3, c3, g4, h4, c4, g5, h5, c5]
def p_D72 : AW := (26, 7, 7) :: (26, 6, 6) :: (32, 0, 119) :: (31, 0, 11) :: (30, 0, 11) :: (29, 0, 9) :: (28, 0, 9) :: (27, 0, 9) :: []
theorem p_72i (M : EM) : ∃ M1, E_C 72 [94, 26] M = some (0, M1) ∧ p_C 0 68 p_D72 M M1 := by
  have hd : p_dir 0 68 := by unfold p_dir; decide
  have g0 : ∀ M, e_gf 384 [26] M = some 27 := fun M => p_g 384 26 27 M (by decide +kernel)
  have h0 : ∀ M, e_gf 384 [94] M = some 95 := fun M => p_g 384 94 95 M (by decide +kernel)
  have c0 : ∀ M, E_C 148 [27, 95] M = some (0, e_cpm M 27 0 95 0 10) := fun M => p_co (n := 10) (by decide +kernel) (by decide +kernel) M
  have g1 : ∀ M, e_gf 385 [26] M = some 28 := fun M => p_g 385 26 28 M (by decide +kernel)
  have h1 : ∀ M, e_gf 385 [94] M = some 96 := fun M => p_g 385 94 96 M (by decide +kernel)
  have c1 : ∀ M, E_C 148 [28, 96] M = some (0, e_cpm M 28 0 96 0 10) := fun M => p_co (n := 10) (by decide +kernel) (by decide +kernel) M
  have g2 : ∀ M, e_gf 386 [26] M = some 29 := fun M => p_g 386 26 29 M (by decide +kernel)
  have h2 : ∀ M, e_gf 386 [94] M = some 97 := fun M => p_g 386 94 97 M (by decide +kernel)
  have c2 : ∀ M, E_C 148 [29, 97] M = some (0, e_cpm M 29 0 97 0 10) := fun M => p_co (n := 10) (by decide +kernel) (by decide +kernel) M
  have g3 : ∀ M, e_gf 387 [26] M = some 30 := fun M => p_g 387 26 30 M (by decide +kernel)
  have h3 : ∀ M, e_gf 387 [94] M = some 98 := fun M => p_g 387 94 98 M (by decide +kernel)
  have c3 : ∀ M, E_C 148 [30, 98] M = some (0, e_cpm M 30 0 98 0 12) := fun M => p_co (n := 12) (by decide +kernel) (by decide +kernel) M
  have g4 : ∀ M, e_gf 388 [26] M = some 31 := fun M => p_g 388 26 31 M (by decide +kernel)
  have h4 : ∀ M, e_gf 388 [94] M = some 99 := fun M => p_g 388 94 99 M (by decide +kernel)
  have c4 : ∀ M, E_C 148 [31, 99] M = some (0, e_cpm M 31 0 99 0 12) := fun M => p_co (n := 12) (by decide +kernel) (by decide +kernel) M
  have g5 : ∀ M, e_gf 389 [26] M = some 32 := fun M => p_g 389 26 32 M (by decide +kernel)
  have h5 : ∀ M, e_gf 389 [94] M = some 100 := fun M => p_g 389 94 100 M (by decide +kernel)
  have c5 : ∀ M, E_C 148 [32, 100] M = some (0, e_cpm M 32 0 100 0 120) := fun M => p_co (n := 120) (by decide +kernel) (by decide +kernel) M
  have f6 : ∀ M, e_gf 390 [26] M = some (M 26 6) := fun M => c_gf (by decide +kernel) (by decide +kernel)
  have w6 : ∀ v M, e_pf 390 [94, v] M = some (e_up M 94 6 v) := fun v M => c_pf (by decide +kernel) (by decide +kernel)
  have f7 : ∀ M, e_gf 391 [26] M = some (M 26 7) := fun M => c_gf (by decide +kernel) (by decide +kernel)
  have w7 : ∀ v M, e_pf 391 [94, v] M = some (e_up M 94 7 v) := fun v M => c_pf (by decide +kernel) (by decide +kernel)
  refine ⟨(e_up (e_up (e_cpm (e_cpm (e_cpm (e_cpm (e_cpm (e_cpm M 27 0 95 0 10) 28 0 96 0 10) 29 0 97 0 10) 30 0 98 0 12) 31 0 99 0 12) 32 0 100 0 120) 94 6 ((e_cpm (e_cpm (e_cpm (e_cpm (e_cpm (e_cpm M 27 0 95 0 10) 28 0 96 0 10) 29 0 97 0 10) 30 0 98 0 12) 31 0 99 0 12) 32 0 100 0 120) 26 6)) 94 7 ((e_up (e_cpm (e_cpm (e_cpm (e_cpm (e_cpm (e_cpm M 27 0 95 0 10) 28 0 96 0 10) 29 0 97 0 10) 30 0 98 0 12) 31 0 99 0 12) 32 0 100 0 120) 94 6 ((e_cpm (e_cpm (e_cpm (e_cpm (e_cpm (e_cpm M 27 0 95 0 10) 28 0 96 0 10) 29 0 97 0 10) 30 0 98 0 12) 31 0 99 0 12) 32 0 100 0 120) 26 6)) 26 7)), ?_, (p_C_cell (so := 0) (to := 68) (id := 26) (j := 7) hd (by decide) (p_C_cell (so := 0) (to := 68) (id := 26) (j := 6) hd (by decide) (p_C_row (so := 0) (to := 68) (id := 32) (n := 120) hd (by decide) (by decide) (p_C_row (so := 0) (to := 68) (id := 31) (n := 12) hd (by decide) (by decide) (p_C_row (so := 0) (to := 68) (id := 30) (n := 12) hd (by decide) (by decide) (p_C_row (so := 0) (to := 68) (id := 29) (n := 10) hd (by decide) (by decide) (p_C_row (so := 0) (to := 68) (id := 28) (n := 10) hd (by decide) (by decide) (p_C_row (so := 0) (to := 68) (id := 27) (n := 10) hd (by decide) (by decide) p_C_0))))))))⟩
  rw [r_ent (show e_rok 72 [94, 26] = true by decide +kernel)]
  show e_tv E_C (E_V 72) e_t72_0 [94, 26] M = _
  unfold e_t72_0
  simp [zq_a, zq_b, zq_c, zq_d, zq_e, zq_f, zq_g, zq_h, zq_i, zq_j, zq_k, zq_l, zq_m, zq_n, zq_o, zq_p, zq_q, zq_r, zq_s, zq_t, zq_u, zq_v, zq_w, zq_x, zq_y, zq_z, zq_A, zq_B, zq_C, zq_D, zq_E, zq_F, zq_G, zq_H, zq_I, zq_J, zq_K, zq_L, ↓zq_M, ↓zq_N, ↓zq_O, ↓zq_P, ↓zq_Q, ↓zq_R, zq_S, zq_T, zq_U, zq_V, zq_W, zq_X, zq_Y, zq_Z, zq_0, zq_1, zq_2, zq_3, zq_4, zq_5, ↓zq_6, ↓zq_7, ↓zq_8, ↓zq_9, ↓zq_aa, zq_ab, zq_ac, zq_ad, zq_ae, zq_af, zq_ag, ↓zq_ah, ↓zq_ai, ↓zq_aj, zq_ak, ↓zq_al, ↓zq_am, e_b1, e_b2, x_o1, x_o2, g0, h0, c0, g1, h1, c1, g2, h2, c2, g3, h3, c3, g4, h4, c4, g5, h5, c5, f6, w6, f7, w7]
theorem p_72r (M : EM) : ∃ M1, E_C 72 [26, 94] M = some (0, M1) ∧ p_C 68 0 p_D72 M M1 := by
  have hd : p_dir 68 0 := by unfold p_dir; decide
  have g0 : ∀ M, e_gf 384 [94] M = some 95 := fun M => p_g 384 94 95 M (by decide +kernel)
  have h0 : ∀ M, e_gf 384 [26] M = some 27 := fun M => p_g 384 26 27 M (by decide +kernel)
  have c0 : ∀ M, E_C 148 [95, 27] M = some (0, e_cpm M 95 0 27 0 10) := fun M => p_co (n := 10) (by decide +kernel) (by decide +kernel) M
  have g1 : ∀ M, e_gf 385 [94] M = some 96 := fun M => p_g 385 94 96 M (by decide +kernel)
  have h1 : ∀ M, e_gf 385 [26] M = some 28 := fun M => p_g 385 26 28 M (by decide +kernel)
  have c1 : ∀ M, E_C 148 [96, 28] M = some (0, e_cpm M 96 0 28 0 10) := fun M => p_co (n := 10) (by decide +kernel) (by decide +kernel) M
  have g2 : ∀ M, e_gf 386 [94] M = some 97 := fun M => p_g 386 94 97 M (by decide +kernel)
  have h2 : ∀ M, e_gf 386 [26] M = some 29 := fun M => p_g 386 26 29 M (by decide +kernel)
  have c2 : ∀ M, E_C 148 [97, 29] M = some (0, e_cpm M 97 0 29 0 10) := fun M => p_co (n := 10) (by decide +kernel) (by decide +kernel) M
  have g3 : ∀ M, e_gf 387 [94] M = some 98 := fun M => p_g 387 94 98 M (by decide +kernel)
  have h3 : ∀ M, e_gf 387 [26] M = some 30 := fun M => p_g 387 26 30 M (by decide +kernel)
  have c3 : ∀ M, E_C 148 [98, 30] M = some (0, e_cpm M 98 0 30 0 12) := fun M => p_co (n := 12) (by decide +kernel) (by decide +kernel) M
  have g4 : ∀ M, e_gf 388 [94] M = some 99 := fun M => p_g 388 94 99 M (by decide +kernel)
  have h4 : ∀ M, e_gf 388 [26] M = some 31 := fun M => p_g 388 26 31 M (by decide +kernel)
  have c4 : ∀ M, E_C 148 [99, 31] M = some (0, e_cpm M 99 0 31 0 12) := fun M => p_co (n := 12) (by decide +kernel) (by decide +kernel) M
  have g5 : ∀ M, e_gf 389 [94] M = some 100 := fun M => p_g 389 94 100 M (by decide +kernel)
  have h5 : ∀ M, e_gf 389 [26] M = some 32 := fun M => p_g 389 26 32 M (by decide +kernel)
  have c5 : ∀ M, E_C 148 [100, 32] M = some (0, e_cpm M 100 0 32 0 120) := fun M => p_co (n := 120) (by decide +kernel) (by decide +kernel) M
  have f6 : ∀ M, e_gf 390 [94] M = some (M 94 6) := fun M => c_gf (by decide +kernel) (by decide +kernel)
  have w6 : ∀ v M, e_pf 390 [26, v] M = some (e_up M 26 6 v) := fun v M => c_pf (by decide +kernel) (by decide +kernel)
  have f7 : ∀ M, e_gf 391 [94] M = some (M 94 7) := fun M => c_gf (by decide +kernel) (by decide +kernel)
  have w7 : ∀ v M, e_pf 391 [26, v] M = some (e_up M 26 7 v) := fun v M => c_pf (by decide +kernel) (by decide +kernel)
  refine ⟨(e_up (e_up (e_cpm (e_cpm (e_cpm (e_cpm (e_cpm (e_cpm M 95 0 27 0 10) 96 0 28 0 10) 97 0 29 0 10) 98 0 30 0 12) 99 0 31 0 12) 100 0 32 0 120) 26 6 ((e_cpm (e_cpm (e_cpm (e_cpm (e_cpm (e_cpm M 95 0 27 0 10) 96 0 28 0 10) 97 0 29 0 10) 98 0 30 0 12) 99 0 31 0 12) 100 0 32 0 120) 94 6)) 26 7 ((e_up (e_cpm (e_cpm (e_cpm (e_cpm (e_cpm (e_cpm M 95 0 27 0 10) 96 0 28 0 10) 97 0 29 0 10) 98 0 30 0 12) 99 0 31 0 12) 100 0 32 0 120) 26 6 ((e_cpm (e_cpm (e_cpm (e_cpm (e_cpm (e_cpm M 95 0 27 0 10) 96 0 28 0 10) 97 0 29 0 10) 98 0 30 0 12) 99 0 31 0 12) 100 0 32 0 120) 94 6)) 94 7)), ?_, (p_C_cell (so := 68) (to := 0) (id := 26) (j := 7) hd (by decide) (p_C_cell (so := 68) (to := 0) (id := 26) (j := 6) hd (by decide) (p_C_row (so := 68) (to := 0) (id := 32) (n := 120) hd (by decide) (by decide) (p_C_row (so := 68) (to := 0) (id := 31) (n := 12) hd (by decide) (by decide) (p_C_row (so := 68) (to := 0) (id := 30) (n := 12) hd (by decide) (by decide) (p_C_row (so := 68) (to := 0) (id := 29) (n := 10) hd (by decide) (by decide) (p_C_row (so := 68) (to := 0) (id := 28) (n := 10) hd (by decide) (by decide) (p_C_row (so := 68) (to := 0) (id := 27) (n := 10) hd (by decide) (by decide) p_C_0))))))))⟩
  rw [r_ent (show e_rok 72 [26, 94] = true by decide +kernel)]
  show e_tv E_C (E_V 72) e_t72_0 [26, 94] M = _
  unfold e_t72_0
  simp [zq_a, zq_b, zq_c, zq_d, zq_e, zq_f, zq_g, zq_h, zq_i, zq_j, zq_k, zq_l, zq_m, zq_n, zq_o, zq_p, zq_q, zq_r, zq_s, zq_t, zq_u, zq_v, zq_w, zq_x, zq_y, zq_z, zq_A, zq_B, zq_C, zq_D, zq_E, zq_F, zq_G, zq_H, zq_I, zq_J, zq_K, zq_L, ↓zq_M, ↓zq_N, ↓zq_O, ↓zq_P, ↓zq_Q, ↓zq_R, zq_S, zq_T, zq_U, zq_V, zq_W, zq_X, zq_Y, zq_Z, zq_0, zq_1, zq_2, zq_3, zq_4, zq_5, ↓zq_6, ↓zq_7, ↓zq_8, ↓zq_9, ↓zq_aa, zq_ab, zq_ac, zq_ad, zq_ae, zq_af, zq_ag, ↓zq_ah, ↓zq_ai, ↓zq_aj, zq_ak, ↓zq_al, ↓zq_am, e_b1, e_b2, x_o1, x_o2, g0, h0, c0, g1, h1, c1, g2, h2, c2, g3, h3, c3, g4, h4, c4, g5, h5, c5, f6, w6, f7, w7]
def p_D93 : AW := (33, 2, 2) :: (35, 0, 11) :: (34, 0, 11) :: []
theorem p_93i (M : EM) : ∃ M1, E_C 93 [101, 33] M = some (0, M1) ∧ p_C 0 68 p_D93 M M1 := by
  have hd : p_dir 0 68 := by unfold p_dir; decide
  have g0 : ∀ M, e_gf 576 [33] M = some 34 := fun M => p_g 576 33 34 M (by decide +kernel)
  have h0 : ∀ M, e_gf 576 [101] M = some 102 := fun M => p_g 576 101 102 M (by decide +kernel)
  have c0 : ∀ M, E_C 148 [34, 102] M = some (0, e_cpm M 34 0 102 0 12) := fun M => p_co (n := 12) (by decide +kernel) (by decide +kernel) M
  have g1 : ∀ M, e_gf 577 [33] M = some 35 := fun M => p_g 577 33 35 M (by decide +kernel)
  have h1 : ∀ M, e_gf 577 [101] M = some 103 := fun M => p_g 577 101 103 M (by decide +kernel)
  have c1 : ∀ M, E_C 148 [35, 103] M = some (0, e_cpm M 35 0 103 0 12) := fun M => p_co (n := 12) (by decide +kernel) (by decide +kernel) M
  have f2 : ∀ M, e_gf 578 [33] M = some (M 33 2) := fun M => c_gf (by decide +kernel) (by decide +kernel)
  have w2 : ∀ v M, e_pf 578 [101, v] M = some (e_up M 101 2 v) := fun v M => c_pf (by decide +kernel) (by decide +kernel)
  refine ⟨(e_up (e_cpm (e_cpm M 34 0 102 0 12) 35 0 103 0 12) 101 2 ((e_cpm (e_cpm M 34 0 102 0 12) 35 0 103 0 12) 33 2)), ?_, (p_C_cell (so := 0) (to := 68) (id := 33) (j := 2) hd (by decide) (p_C_row (so := 0) (to := 68) (id := 35) (n := 12) hd (by decide) (by decide) (p_C_row (so := 0) (to := 68) (id := 34) (n := 12) hd (by decide) (by decide) p_C_0)))⟩
  rw [r_ent (show e_rok 93 [101, 33] = true by decide +kernel)]
  show e_tv E_C (E_V 93) e_t93_0 [101, 33] M = _
  unfold e_t93_0
  simp [zq_a, zq_b, zq_c, zq_d, zq_e, zq_f, zq_g, zq_h, zq_i, zq_j, zq_k, zq_l, zq_m, zq_n, zq_o, zq_p, zq_q, zq_r, zq_s, zq_t, zq_u, zq_v, zq_w, zq_x, zq_y, zq_z, zq_A, zq_B, zq_C, zq_D, zq_E, zq_F, zq_G, zq_H, zq_I, zq_J, zq_K, zq_L, ↓zq_M, ↓zq_N, ↓zq_O, ↓zq_P, ↓zq_Q, ↓zq_R, zq_S, zq_T, zq_U, zq_V, zq_W, zq_X, zq_Y, zq_Z, zq_0, zq_1, zq_2, zq_3, zq_4, zq_5, ↓zq_6, ↓zq_7, ↓zq_8, ↓zq_9, ↓zq_aa, zq_ab, zq_ac, zq_ad, zq_ae, zq_af, zq_ag, ↓zq_ah, ↓zq_ai, ↓zq_aj, zq_ak, ↓zq_al, ↓zq_am, e_b1, e_b2, x_o1, x_o2, g0, h0, c0, g1, h1, c1, f2, w2]
theorem p_93r (M : EM) : ∃ M1, E_C 93 [33, 101] M = some (0, M1) ∧ p_C 68 0 p_D93 M M1 := by
  have hd : p_dir 68 0 := by unfold p_dir; decide
  have g0 : ∀ M, e_gf 576 [101] M = some 102 := fun M => p_g 576 101 102 M (by decide +kernel)
  have h0 : ∀ M, e_gf 576 [33] M = some 34 := fun M => p_g 576 33 34 M (by decide +kernel)
  have c0 : ∀ M, E_C 148 [102, 34] M = some (0, e_cpm M 102 0 34 0 12) := fun M => p_co (n := 12) (by decide +kernel) (by decide +kernel) M
  have g1 : ∀ M, e_gf 577 [101] M = some 103 := fun M => p_g 577 101 103 M (by decide +kernel)
  have h1 : ∀ M, e_gf 577 [33] M = some 35 := fun M => p_g 577 33 35 M (by decide +kernel)
  have c1 : ∀ M, E_C 148 [103, 35] M = some (0, e_cpm M 103 0 35 0 12) := fun M => p_co (n := 12) (by decide +kernel) (by decide +kernel) M
  have f2 : ∀ M, e_gf 578 [101] M = some (M 101 2) := fun M => c_gf (by decide +kernel) (by decide +kernel)
  have w2 : ∀ v M, e_pf 578 [33, v] M = some (e_up M 33 2 v) := fun v M => c_pf (by decide +kernel) (by decide +kernel)
  refine ⟨(e_up (e_cpm (e_cpm M 102 0 34 0 12) 103 0 35 0 12) 33 2 ((e_cpm (e_cpm M 102 0 34 0 12) 103 0 35 0 12) 101 2)), ?_, (p_C_cell (so := 68) (to := 0) (id := 33) (j := 2) hd (by decide) (p_C_row (so := 68) (to := 0) (id := 35) (n := 12) hd (by decide) (by decide) (p_C_row (so := 68) (to := 0) (id := 34) (n := 12) hd (by decide) (by decide) p_C_0)))⟩
  rw [r_ent (show e_rok 93 [33, 101] = true by decide +kernel)]
  show e_tv E_C (E_V 93) e_t93_0 [33, 101] M = _
  unfold e_t93_0
  simp [zq_a, zq_b, zq_c, zq_d, zq_e, zq_f, zq_g, zq_h, zq_i, zq_j, zq_k, zq_l, zq_m, zq_n, zq_o, zq_p, zq_q, zq_r, zq_s, zq_t, zq_u, zq_v, zq_w, zq_x, zq_y, zq_z, zq_A, zq_B, zq_C, zq_D, zq_E, zq_F, zq_G, zq_H, zq_I, zq_J, zq_K, zq_L, ↓zq_M, ↓zq_N, ↓zq_O, ↓zq_P, ↓zq_Q, ↓zq_R, zq_S, zq_T, zq_U, zq_V, zq_W, zq_X, zq_Y, zq_Z, zq_0, zq_1, zq_2, zq_3, zq_4, zq_5, ↓zq_6, ↓zq_7, ↓zq_8, ↓zq_9, ↓zq_aa, zq_ab, zq_ac, zq_ad, zq_ae, zq_af, zq_ag, ↓zq_ah, ↓zq_ai, ↓zq_aj, zq_ak, ↓zq_al, ↓zq_am, e_b1, e_b2, x_o1, x_o2, g0, h0, c0, g1, h1, c1, f2, w2]
