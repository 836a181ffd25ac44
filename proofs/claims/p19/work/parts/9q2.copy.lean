section
/-! a HOUSE over another: the class's image and restore, exactly -/
def p_dir (so to : Nat) : Prop := (so = 0 ∧ to = 68) ∨ (so = 68 ∧ to = 0)
/-- what D says (of the live HOUSE's cells) has been taken over, from those so further on to those to further on; nothing else is written -/
def p_C (so to : Nat) (D : AW) (M0 M : EM) : Prop := (∀ w ∈ D, ∀ k, w.2.1 ≤ k → k ≤ w.2.2 → M (w.1 + to) k = M0 (w.1 + so) k) ∧ (∀ id k, (∀ w ∈ D, ¬ (id = w.1 + to ∧ w.2.1 ≤ k ∧ k ≤ w.2.2)) → M id k = M0 id k) ∧ ∀ w ∈ D, 10 ≤ w.1 ∧ w.1 ≤ 76
theorem p_C_0 {so to : Nat} {M : EM} : p_C so to [] M M := ⟨fun w hw => (by cases hw), fun _ _ _ => rfl, fun w hw => (by cases hw)⟩
theorem p_C_src {so to id : Nat} {D : AW} {M0 M : EM} (hd : p_dir so to) (hi : 10 ≤ id ∧ id ≤ 76) (h : p_C so to D M0 M) (k : Nat) : M (id + so) k = M0 (id + so) k := h.2.1 _ _ (fun w hw hc => by
  have := h.2.2 w hw
  unfold p_dir at hd
  omega)
theorem p_C_row {so to id n : Nat} {D : AW} {M0 M : EM} (hd : p_dir so to) (hi : 10 ≤ id ∧ id ≤ 76) (hn : 0 < n) (h : p_C so to D M0 M) : p_C so to ((id, 0, n - 1) :: D) M0 (e_cpm M (id + so) 0 (id + to) 0 n) := by
  have hsrc := p_C_src hd hi h
  obtain ⟨h1, h2, h3⟩ := h
  refine ⟨fun w hw k k0 k1 => ?_, fun i k hk => ?_, fun w hw => ?_⟩
  · unfold e_cpm
    by_cases c : w.1 + to = id + to ∧ 0 ≤ k ∧ k < 0 + n
    · rw [if_pos c, hsrc]
      have e : w.1 = id := by omega
      rw [e]
      congr 1
      omega
    · rw [if_neg c]
      rcases List.mem_cons.mp hw with e | hw
      · subst e
        exact absurd ⟨rfl, Nat.zero_le _, by dsimp only at k1; omega⟩ c
      · exact h1 w hw k k0 k1
  · unfold e_cpm
    rw [if_neg (fun c => hk _ List.mem_cons_self ⟨c.1, Nat.zero_le _, by have := c.2.2; dsimp only; omega⟩)]
    exact h2 i k (fun w hw hc => hk w (List.mem_cons_of_mem _ hw) hc)
  · rcases List.mem_cons.mp hw with e | hw
    · subst e
      exact hi
    · exact h3 w hw
theorem p_C_cell {so to id j : Nat} {D : AW} {M0 M : EM} (hd : p_dir so to) (hi : 10 ≤ id ∧ id ≤ 76) (h : p_C so to D M0 M) : p_C so to ((id, j, j) :: D) M0 (e_up M (id + to) j (M (id + so) j)) := by
  have hsrc := p_C_src hd hi h
  obtain ⟨h1, h2, h3⟩ := h
  refine ⟨fun w hw k k0 k1 => ?_, fun i k hk => ?_, fun w hw => ?_⟩
  · by_cases c : w.1 + to = id + to ∧ k = j
    · have e : w.1 = id := by omega
      rw [e, c.2, c_up_s, hsrc]
    · rw [c_up_n c]
      rcases List.mem_cons.mp hw with e | hw
      · subst e
        exact absurd ⟨rfl, by dsimp only at k0 k1; omega⟩ c
      · exact h1 w hw k k0 k1
  · rw [c_up_n (fun c => hk _ List.mem_cons_self ⟨c.1, by dsimp only; omega, by dsimp only; omega⟩)]
    exact h2 i k (fun w hw hc => hk w (List.mem_cons_of_mem _ hw) hc)
  · rcases List.mem_cons.mp hw with e | hw
    · subst e
      exact hi
    · exact h3 w hw
theorem p_co {a b : Int} {n : Nat} (ha : 8 ≤ a ∧ a.toNat < e_N ∧ e_sh a.toNat = (100, n)) (hb : 8 ≤ b ∧ b.toNat < e_N ∧ e_sh b.toNat = (100, n)) (M : EM) : E_C 148 [a, b] M = some (0, e_cpm M a.toNat 0 b.toNat 0 n) := by
  obtain ⟨a1, a2, a3⟩ := ha
  obtain ⟨b1, b2, b3⟩ := hb
  rw [r_ent (show e_rok 148 [a, b] = true from rfl)]
  show e_tv E_C (E_V 148) e_t148_0 [a, b] M = _
  unfold e_t148_0
  have za : e_sz M a.toNat = n := (if_neg (show ¬ a.toNat = 0 by omega)).trans (by rw [a3])
  have zb : e_sz M b.toNat = n := (if_neg (show ¬ b.toNat = 0 by omega)).trans (by rw [b3])
  have na : ¬ (a = -1) := by omega
  have nb : ¬ (b = -1) := by omega
  have a0 : 0 ≤ a := by omega
  have b0 : 0 ≤ b := by omega
  have hcp : e_cp [a, 0, b, 0, (n : Int)] M = some (e_cpm M a.toNat 0 b.toNat 0 n) := by
    have h : e_isO 100 b ∧ e_isO 100 a ∧ (0 : Int) ≤ 0 ∧ (0 : Int) ≤ 0 ∧ (0 : Int) ≤ (n : Int) ∧ (0 : Int) + n ≤ (e_sh a.toNat).2 ∧ (0 : Int) + n ≤ (e_sh b.toNat).2 := by
      refine ⟨⟨by omega, b2, by rw [b3]⟩, ⟨by omega, a2, by rw [a3]⟩, by omega, by omega, by omega, ?_, ?_⟩
      · rw [a3]; dsimp only; omega
      · rw [b3]; dsimp only; omega
    exact (if_pos h).trans (by rw [Int.toNat_natCast]; rfl)
  simp [e_tv, e_ev, e_sv, e_op, e_b1, e_b2, na, nb, a0, b0, za, zb, a2, a3, b2, b3, hcp]

def p_D51 : AW := (17, 0, 319) :: (16, 0, 319) :: (15, 0, 319) :: (14, 0, 39) :: (13, 0, 39) :: (12, 0, 39) :: (11, 0, 39) :: (10, 0, 0) :: []
theorem p_51i (M : EM) : ∃ M1, E_C 51 [78, 10] M = some (0, M1) ∧ p_C 0 68 p_D51 M M1 := by
  have hd : p_dir 0 68 := by unfold p_dir; decide
  have f0 : ∀ M, e_gf 256 [10] M = some (M 10 0) := fun M => c_gf (by decide +kernel) (by decide +kernel)
  have w0 : ∀ v M, e_pf 256 [78, v] M = some (e_up M 78 0 v) := fun v M => c_pf (by decide +kernel) (by decide +kernel)
  have g1 : ∀ M, e_gf 257 [10] M = some 11 := fun M => p_g 257 10 11 M (by decide +kernel)
  have h1 : ∀ M, e_gf 257 [78] M = some 79 := fun M => p_g 257 78 79 M (by decide +kernel)
  have c1 : ∀ M, E_C 148 [11, 79] M = some (0, e_cpm M 11 0 79 0 40) := fun M => p_co (n := 40) (by decide +kernel) (by decide +kernel) M
  have g2 : ∀ M, e_gf 258 [10] M = some 12 := fun M => p_g 258 10 12 M (by decide +kernel)
  have h2 : ∀ M, e_gf 258 [78] M = some 80 := fun M => p_g 258 78 80 M (by decide +kernel)
  have c2 : ∀ M, E_C 148 [12, 80] M = some (0, e_cpm M 12 0 80 0 40) := fun M => p_co (n := 40) (by decide +kernel) (by decide +kernel) M
  have g3 : ∀ M, e_gf 259 [10] M = some 13 := fun M => p_g 259 10 13 M (by decide +kernel)
  have h3 : ∀ M, e_gf 259 [78] M = some 81 := fun M => p_g 259 78 81 M (by decide +kernel)
  have c3 : ∀ M, E_C 148 [13, 81] M = some (0, e_cpm M 13 0 81 0 40) := fun M => p_co (n := 40) (by decide +kernel) (by decide +kernel) M
  have g4 : ∀ M, e_gf 260 [10] M = some 14 := fun M => p_g 260 10 14 M (by decide +kernel)
  have h4 : ∀ M, e_gf 260 [78] M = some 82 := fun M => p_g 260 78 82 M (by decide +kernel)
  have c4 : ∀ M, E_C 148 [14, 82] M = some (0, e_cpm M 14 0 82 0 40) := fun M => p_co (n := 40) (by decide +kernel) (by decide +kernel) M
  have g5 : ∀ M, e_gf 261 [10] M = some 15 := fun M => p_g 261 10 15 M (by decide +kernel)
  have h5 : ∀ M, e_gf 261 [78] M = some 83 := fun M => p_g 261 78 83 M (by decide +kernel)
  have c5 : ∀ M, E_C 148 [15, 83] M = some (0, e_cpm M 15 0 83 0 320) := fun M => p_co (n := 320) (by decide +kernel) (by decide +kernel) M
  have g6 : ∀ M, e_gf 262 [10] M = some 16 := fun M => p_g 262 10 16 M (by decide +kernel)
  have h6 : ∀ M, e_gf 262 [78] M = some 84 := fun M => p_g 262 78 84 M (by decide +kernel)
  have c6 : ∀ M, E_C 148 [16, 84] M = some (0, e_cpm M 16 0 84 0 320) := fun M => p_co (n := 320) (by decide +kernel) (by decide +kernel) M
  have g7 : ∀ M, e_gf 263 [10] M = some 17 := fun M => p_g 263 10 17 M (by decide +kernel)
  have h7 : ∀ M, e_gf 263 [78] M = some 85 := fun M => p_g 263 78 85 M (by decide +kernel)
  have c7 : ∀ M, E_C 148 [17, 85] M = some (0, e_cpm M 17 0 85 0 320) := fun M => p_co (n := 320) (by decide +kernel) (by decide +kernel) M
  refine ⟨(e_cpm (e_cpm (e_cpm (e_cpm (e_cpm (e_cpm (e_cpm (e_up M 78 0 (M 10 0)) 11 0 79 0 40) 12 0 80 0 40) 13 0 81 0 40) 14 0 82 0 40) 15 0 83 0 320) 16 0 84 0 320) 17 0 85 0 320), ?_, (p_C_row (so := 0) (to := 68) (id := 17) (n := 320) hd (by decide) (by decide) (p_C_row (so := 0) (to := 68) (id := 16) (n := 320) hd (by decide) (by decide) (p_C_row (so := 0) (to := 68) (id := 15) (n := 320) hd (by decide) (by decide) (p_C_row (so := 0) (to := 68) (id := 14) (n := 40) hd (by decide) (by decide) (p_C_row (so := 0) (to := 68) (id := 13) (n := 40) hd (by decide) (by decide) (p_C_row (so := 0) (to := 68) (id := 12) (n := 40) hd (by decide) (by decide) (p_C_row (so := 0) (to := 68) (id := 11) (n := 40) hd (by decide) (by decide) (p_C_cell (so := 0) (to := 68) (id := 10) (j := 0) hd (by decide) p_C_0))))))))⟩
  rw [r_ent (show e_rok 51 [78, 10] = true by decide +kernel)]
  show e_tv E_C (E_V 51) e_t51_0 [78, 10] M = _
  unfold e_t51_0
  simp [e_tv, e_ev, e_sv, e_b1, e_b2, x_o1, x_o2, f0, w0, g1, h1, c1, g2, h2, c2, g3, h3, c3, g4, h4, c4, g5, h5, c5, g6, h6, c6, g7, h7, c7]
theorem p_51r (M : EM) : ∃ M1, E_C 51 [10, 78] M = some (0, M1) ∧ p_C 68 0 p_D51 M M1 := by
  have hd : p_dir 68 0 := by unfold p_dir; decide
  have f0 : ∀ M, e_gf 256 [78] M = some (M 78 0) := fun M => c_gf (by decide +kernel) (by decide +kernel)
  have w0 : ∀ v M, e_pf 256 [10, v] M = some (e_up M 10 0 v) := fun v M => c_pf (by decide +kernel) (by decide +kernel)
  have g1 : ∀ M, e_gf 257 [78] M = some 79 := fun M => p_g 257 78 79 M (by decide +kernel)
  have h1 : ∀ M, e_gf 257 [10] M = some 11 := fun M => p_g 257 10 11 M (by decide +kernel)
  have c1 : ∀ M, E_C 148 [79, 11] M = some (0, e_cpm M 79 0 11 0 40) := fun M => p_co (n := 40) (by decide +kernel) (by decide +kernel) M
  have g2 : ∀ M, e_gf 258 [78] M = some 80 := fun M => p_g 258 78 80 M (by decide +kernel)
  have h2 : ∀ M, e_gf 258 [10] M = some 12 := fun M => p_g 258 10 12 M (by decide +kernel)
  have c2 : ∀ M, E_C 148 [80, 12] M = some (0, e_cpm M 80 0 12 0 40) := fun M => p_co (n := 40) (by decide +kernel) (by decide +kernel) M
  have g3 : ∀ M, e_gf 259 [78] M = some 81 := fun M => p_g 259 78 81 M (by decide +kernel)
  have h3 : ∀ M, e_gf 259 [10] M = some 13 := fun M => p_g 259 10 13 M (by decide +kernel)
  have c3 : ∀ M, E_C 148 [81, 13] M = some (0, e_cpm M 81 0 13 0 40) := fun M => p_co (n := 40) (by decide +kernel) (by decide +kernel) M
  have g4 : ∀ M, e_gf 260 [78] M = some 82 := fun M => p_g 260 78 82 M (by decide +kernel)
  have h4 : ∀ M, e_gf 260 [10] M = some 14 := fun M => p_g 260 10 14 M (by decide +kernel)
  have c4 : ∀ M, E_C 148 [82, 14] M = some (0, e_cpm M 82 0 14 0 40) := fun M => p_co (n := 40) (by decide +kernel) (by decide +kernel) M
  have g5 : ∀ M, e_gf 261 [78] M = some 83 := fun M => p_g 261 78 83 M (by decide +kernel)
  have h5 : ∀ M, e_gf 261 [10] M = some 15 := fun M => p_g 261 10 15 M (by decide +kernel)
  have c5 : ∀ M, E_C 148 [83, 15] M = some (0, e_cpm M 83 0 15 0 320) := fun M => p_co (n := 320) (by decide +kernel) (by decide +kernel) M
  have g6 : ∀ M, e_gf 262 [78] M = some 84 := fun M => p_g 262 78 84 M (by decide +kernel)
  have h6 : ∀ M, e_gf 262 [10] M = some 16 := fun M => p_g 262 10 16 M (by decide +kernel)
  have c6 : ∀ M, E_C 148 [84, 16] M = some (0, e_cpm M 84 0 16 0 320) := fun M => p_co (n := 320) (by decide +kernel) (by decide +kernel) M
  have g7 : ∀ M, e_gf 263 [78] M = some 85 := fun M => p_g 263 78 85 M (by decide +kernel)
  have h7 : ∀ M, e_gf 263 [10] M = some 17 := fun M => p_g 263 10 17 M (by decide +kernel)
  have c7 : ∀ M, E_C 148 [85, 17] M = some (0, e_cpm M 85 0 17 0 320) := fun M => p_co (n := 320) (by decide +kernel) (by decide +kernel) M
  refine ⟨(e_cpm (e_cpm (e_cpm (e_cpm (e_cpm (e_cpm (e_cpm (e_up M 10 0 (M 78 0)) 79 0 11 0 40) 80 0 12 0 40) 81 0 13 0 40) 82 0 14 0 40) 83 0 15 0 320) 84 0 16 0 320) 85 0 17 0 320), ?_, (p_C_row (so := 68) (to := 0) (id := 17) (n := 320) hd (by decide) (by decide) (p_C_row (so := 68) (to := 0) (id := 16) (n := 320) hd (by decide) (by decide) (p_C_row (so := 68) (to := 0) (id := 15) (n := 320) hd (by decide) (by decide) (p_C_row (so := 68) (to := 0) (id := 14) (n := 40) hd (by decide) (by decide) (p_C_row (so := 68) (to := 0) (id := 13) (n := 40) hd (by decide) (by decide) (p_C_row (so := 68) (to := 0) (id := 12) (n := 40) hd (by decide) (by decide) (p_C_row (so := 68) (to := 0) (id := 11) (n := 40) hd (by decide) (by decide) (p_C_cell (so := 68) (to := 0) (id := 10) (j := 0) hd (by decide) p_C_0))))))))⟩
  rw [r_ent (show e_rok 51 [10, 78] = true by decide +kernel)]
  show e_tv E_C (E_V 51) e_t51_0 [10, 78] M = _
  unfold e_t51_0
  simp [e_tv, e_ev, e_sv, e_b1, e_b2, x_o1, x_o2, f0, w0, g1, h1, c1, g2, h2, c2, g3, h3, c3, g4, h4, c4, g5, h5, c5, g6, h6, c6, g7, h7, c7]
def p_D34 : AW := (24, 0, 39) :: (23, 0, 39) :: (22, 0, 39) :: (21, 0, 159) :: (20, 0, 239) :: (19, 0, 239) :: []
theorem p_34i (M : EM) : ∃ M1, E_C 34 [86, 18] M = some (0, M1) ∧ p_C 0 68 p_D34 M M1 := by
  have hd : p_dir 0 68 := by unfold p_dir; decide
  have g0 : ∀ M, e_gf 64 [18] M = some 19 := fun M => p_g 64 18 19 M (by decide +kernel)
  have h0 : ∀ M, e_gf 64 [86] M = some 87 := fun M => p_g 64 86 87 M (by decide +kernel)
  have c0 : ∀ M, E_C 148 [19, 87] M = some (0, e_cpm M 19 0 87 0 240) := fun M => p_co (n := 240) (by decide +kernel) (by decide +kernel) M
  have g1 : ∀ M, e_gf 65 [18] M = some 20 := fun M => p_g 65 18 20 M (by decide +kernel)
  have h1 : ∀ M, e_gf 65 [86] M = some 88 := fun M => p_g 65 86 88 M (by decide +kernel)
  have c1 : ∀ M, E_C 148 [20, 88] M = some (0, e_cpm M 20 0 88 0 240) := fun M => p_co (n := 240) (by decide +kernel) (by decide +kernel) M
  have g2 : ∀ M, e_gf 66 [18] M = some 21 := fun M => p_g 66 18 21 M (by decide +kernel)
  have h2 : ∀ M, e_gf 66 [86] M = some 89 := fun M => p_g 66 86 89 M (by decide +kernel)
  have c2 : ∀ M, E_C 148 [21, 89] M = some (0, e_cpm M 21 0 89 0 160) := fun M => p_co (n := 160) (by decide +kernel) (by decide +kernel) M
  have g3 : ∀ M, e_gf 67 [18] M = some 22 := fun M => p_g 67 18 22 M (by decide +kernel)
  have h3 : ∀ M, e_gf 67 [86] M = some 90 := fun M => p_g 67 86 90 M (by decide +kernel)
  have c3 : ∀ M, E_C 148 [22, 90] M = some (0, e_cpm M 22 0 90 0 40) := fun M => p_co (n := 40) (by decide +kernel) (by decide +kernel) M
  have g4 : ∀ M, e_gf 68 [18] M = some 23 := fun M => p_g 68 18 23 M (by decide +kernel)
  have h4 : ∀ M, e_gf 68 [86] M = some 91 := fun M => p_g 68 86 91 M (by decide +kernel)
  have c4 : ∀ M, E_C 148 [23, 91] M = some (0, e_cpm M 23 0 91 0 40) := fun M => p_co (n := 40) (by decide +kernel) (by decide +kernel) M
  have g5 : ∀ M, e_gf 69 [18] M = some 24 := fun M => p_g 69 18 24 M (by decide +kernel)
  have h5 : ∀ M, e_gf 69 [86] M = some 92 := fun M => p_g 69 86 92 M (by decide +kernel)
  have c5 : ∀ M, E_C 148 [24, 92] M = some (0, e_cpm M 24 0 92 0 40) := fun M => p_co (n := 40) (by decide +kernel) (by decide +kernel) M
  refine ⟨(e_cpm (e_cpm (e_cpm (e_cpm (e_cpm (e_cpm M 19 0 87 0 240) 20 0 88 0 240) 21 0 89 0 160) 22 0 90 0 40) 23 0 91 0 40) 24 0 92 0 40), ?_, (p_C_row (so := 0) (to := 68) (id := 24) (n := 40) hd (by decide) (by decide) (p_C_row (so := 0) (to := 68) (id := 23) (n := 40) hd (by decide) (by decide) (p_C_row (so := 0) (to := 68) (id := 22) (n := 40) hd (by decide) (by decide) (p_C_row (so := 0) (to := 68) (id := 21) (n := 160) hd (by decide) (by decide) (p_C_row (so := 0) (to := 68) (id := 20) (n := 240) hd (by decide) (by decide) (p_C_row (so := 0) (to := 68) (id := 19) (n := 240) hd (by decide) (by decide) p_C_0))))))⟩
  rw [r_ent (show e_rok 34 [86, 18] = true by decide +kernel)]
  show e_tv E_C (E_V 34) e_t34_0 [86, 18] M = _
  unfold e_t34_0
  simp [e_tv, e_ev, e_sv, e_b1, e_b2, x_o1, x_o2, g0, h0, c0, g1, h1, c1, g2, h2, c2, g3, h3, c3, g4, h4, c4, g5, h5, c5]
theorem p_34r (M : EM) : ∃ M1, E_C 34 [18, 86] M = some (0, M1) ∧ p_C 68 0 p_D34 M M1 := by
  have hd : p_dir 68 0 := by unfold p_dir; decide
  have g0 : ∀ M, e_gf 64 [86] M = some 87 := fun M => p_g 64 86 87 M (by decide +kernel)
  have h0 : ∀ M, e_gf 64 [18] M = some 19 := fun M => p_g 64 18 19 M (by decide +kernel)
  have c0 : ∀ M, E_C 148 [87, 19] M = some (0, e_cpm M 87 0 19 0 240) := fun M => p_co (n := 240) (by decide +kernel) (by decide +kernel) M
  have g1 : ∀ M, e_gf 65 [86] M = some 88 := fun M => p_g 65 86 88 M (by decide +kernel)
  have h1 : ∀ M, e_gf 65 [18] M = some 20 := fun M => p_g 65 18 20 M (by decide +kernel)
  have c1 : ∀ M, E_C 148 [88, 20] M = some (0, e_cpm M 88 0 20 0 240) := fun M => p_co (n := 240) (by decide +kernel) (by decide +kernel) M
  have g2 : ∀ M, e_gf 66 [86] M = some 89 := fun M => p_g 66 86 89 M (by decide +kernel)
  have h2 : ∀ M, e_gf 66 [18] M = some 21 := fun M => p_g 66 18 21 M (by decide +kernel)
  have c2 : ∀ M, E_C 148 [89, 21] M = some (0, e_cpm M 89 0 21 0 160) := fun M => p_co (n := 160) (by decide +kernel) (by decide +kernel) M
  have g3 : ∀ M, e_gf 67 [86] M = some 90 := fun M => p_g 67 86 90 M (by decide +kernel)
  have h3 : ∀ M, e_gf 67 [18] M = some 22 := fun M => p_g 67 18 22 M (by decide +kernel)
  have c3 : ∀ M, E_C 148 [90, 22] M = some (0, e_cpm M 90 0 22 0 40) := fun M => p_co (n := 40) (by decide +kernel) (by decide +kernel) M
  have g4 : ∀ M, e_gf 68 [86] M = some 91 := fun M => p_g 68 86 91 M (by decide +kernel)
  have h4 : ∀ M, e_gf 68 [18] M = some 23 := fun M => p_g 68 18 23 M (by decide +kernel)
  have c4 : ∀ M, E_C 148 [91, 23] M = some (0, e_cpm M 91 0 23 0 40) := fun M => p_co (n := 40) (by decide +kernel) (by decide +kernel) M
  have g5 : ∀ M, e_gf 69 [86] M = some 92 := fun M => p_g 69 86 92 M (by decide +kernel)
  have h5 : ∀ M, e_gf 69 [18] M = some 24 := fun M => p_g 69 18 24 M (by decide +kernel)
  have c5 : ∀ M, E_C 148 [92, 24] M = some (0, e_cpm M 92 0 24 0 40) := fun M => p_co (n := 40) (by decide +kernel) (by decide +kernel) M
  refine ⟨(e_cpm (e_cpm (e_cpm (e_cpm (e_cpm (e_cpm M 87 0 19 0 240) 88 0 20 0 240) 89 0 21 0 160) 90 0 22 0 40) 91 0 23 0 40) 92 0 24 0 40), ?_, (p_C_row (so := 68) (to := 0) (id := 24) (n := 40) hd (by decide) (by decide) (p_C_row (so := 68) (to := 0) (id := 23) (n := 40) hd (by decide) (by decide) (p_C_row (so := 68) (to := 0) (id := 22) (n := 40) hd (by decide) (by decide) (p_C_row (so := 68) (to := 0) (id := 21) (n := 160) hd (by decide) (by decide) (p_C_row (so := 68) (to := 0) (id := 20) (n := 240) hd (by decide) (by decide) (p_C_row (so := 68) (to := 0) (id := 19) (n := 240) hd (by decide) (by decide) p_C_0))))))⟩
  rw [r_ent (show e_rok 34 [18, 86] = true by decide +kernel)]
  show e_tv E_C (E_V 34) e_t34_0 [18, 86] M = _
  unfold e_t34_0
  simp [e_tv, e_ev, e_sv, e_b1, e_b2, x_o1, x_o2, g0, h0, c0, g1, h1, c1, g2, h2, c2, g3, h3, c3, g4, h4, c4, g5, h5, c5]
def p_D72 : AW := (26, 7, 7) :: (26, 6, 6) :: (32, 0, 119) :: (31, 0, 11) :: (30, 0, 11) :: (29, 0, 9) :: (28, 0, 9) :: (27, 0, 9) :: []
theorem p_72i (M : EM) : ∃ M1, E_C 72 [94, 26] M = some (0, M1) ∧ p_C 0 68 p_D72 M M1 := by
  have hd : p_dir 0 68 := by unfold p_dir; decide
  have g0 : ∀ M, e_gf 384 [26] M = some 27 := fun M => p_g 384 26 27 M (by decide +kernel)
  have h0 : ∀ M, e_gf 384 [94] M = some 95 := fun M => p_g 384 94 95 M (by decide +kernel)
  have c0 : ∀ M, E_C 148 [27, 95] M = some (0, e_cpm M 27 0 95 0 10) := fun M => p_co (n := 10) (by decide +kernel) (by decide +kernel) M
  have g1 : ∀ M, e_gf 385 [26] M = some 28 := fun M => p_g 385 26 28 M (by decide +kernel)
  have h1 : ∀ M, e_gf 385 [94] M = some 96 := fun M => p_g 385 94 96 M (by decide +kernel)
  have c1 : ∀ M, E_C 148 [28, 96] M = some (0, e_cpm M 28 0 96 0 10) := fun M => p_co (n := 10) (by decide +kernel) (by decide +kernel) M
  have g2 : ∀ M, e_gf 386 [26] M = some 29 := fun M => p_g 386 26 29 M (by decide +kernel)
  have h2 : ∀ M, e_gf 386 [94] M = some 97 := fun M => p_g 386 94 97 M (by decide +kernel)
  have c2 : ∀ M, E_C 148 [29, 97] M = some (0, e_cpm M 29 0 97 0 10) := fun M => p_co (n := 10) (by decide +kernel) (by decide +kernel) M
  have g3 : ∀ M, e_gf 387 [26] M = some 30 := fun M => p_g 387 26 30 M (by decide +kernel)
  have h3 : ∀ M, e_gf 387 [94] M = some 98 := fun M => p_g 387 94 98 M (by decide +kernel)
  have c3 : ∀ M, E_C 148 [30, 98] M = some (0, e_cpm M 30 0 98 0 12) := fun M => p_co (n := 12) (by decide +kernel) (by decide +kernel) M
  have g4 : ∀ M, e_gf 388 [26] M = some 31 := fun M => p_g 388 26 31 M (by decide +kernel)
  have h4 : ∀ M, e_gf 388 [94] M = some 99 := fun M => p_g 388 94 99 M (by decide +kernel)
  have c4 : ∀ M, E_C 148 [31, 99] M = some (0, e_cpm M 31 0 99 0 12) := fun M => p_co (n := 12) (by decide +kernel) (by decide +kernel) M
  have g5 : ∀ M, e_gf 389 [26] M = some 32 := fun M => p_g 389 26 32 M (by decide +kernel)
  have h5 : ∀ M, e_gf 389 [94] M = some 100 := fun M => p_g 389 94 100 M (by decide +kernel)
  have c5 : ∀ M, E_C 148 [32, 100] M = some (0, e_cpm M 32 0 100 0 120) := fun M => p_co (n := 120) (by decide +kernel) (by decide +kernel) M
  have f6 : ∀ M, e_gf 390 [26] M = some (M 26 6) := fun M => c_gf (by decide +kernel) (by decide +kernel)
  have w6 : ∀ v M, e_pf 390 [94, v] M = some (e_up M 94 6 v) := fun v M => c_pf (by decide +kernel) (by decide +kernel)
  have f7 : ∀ M, e_gf 391 [26] M = some (M 26 7) := fun M => c_gf (by decide +kernel) (by decide +kernel)
  have w7 : ∀ v M, e_pf 391 [94, v] M = some (e_up M 94 7 v) := fun v M => c_pf (by decide +kernel) (by decide +kernel)
  refine ⟨(e_up (e_up (e_cpm (e_cpm (e_cpm (e_cpm (e_cpm (e_cpm M 27 0 95 0 10) 28 0 96 0 10) 29 0 97 0 10) 30 0 98 0 12) 31 0 99 0 12) 32 0 100 0 120) 94 6 ((e_cpm (e_cpm (e_cpm (e_cpm (e_cpm (e_cpm M 27 0 95 0 10) 28 0 96 0 10) 29 0 97 0 10) 30 0 98 0 12) 31 0 99 0 12) 32 0 100 0 120) 26 6)) 94 7 ((e_up (e_cpm (e_cpm (e_cpm (e_cpm (e_cpm (e_cpm M 27 0 95 0 10) 28 0 96 0 10) 29 0 97 0 10) 30 0 98 0 12) 31 0 99 0 12) 32 0 100 0 120) 94 6 ((e_cpm (e_cpm (e_cpm (e_cpm (e_cpm (e_cpm M 27 0 95 0 10) 28 0 96 0 10) 29 0 97 0 10) 30 0 98 0 12) 31 0 99 0 12) 32 0 100 0 120) 26 6)) 26 7)), ?_, (p_C_cell (so := 0) (to := 68) (id := 26) (j := 7) hd (by decide) (p_C_cell (so := 0) (to := 68) (id := 26) (j := 6) hd (by decide) (p_C_row (so := 0) (to := 68) (id := 32) (n := 120) hd (by decide) (by decide) (p_C_row (so := 0) (to := 68) (id := 31) (n := 12) hd (by decide) (by decide) (p_C_row (so := 0) (to := 68) (id := 30) (n := 12) hd (by decide) (by decide) (p_C_row (so := 0) (to := 68) (id := 29) (n := 10) hd (by decide) (by decide) (p_C_row (so := 0) (to := 68) (id := 28) (n := 10) hd (by decide) (by decide) (p_C_row (so := 0) (to := 68) (id := 27) (n := 10) hd (by decide) (by decide) p_C_0))))))))⟩
  rw [r_ent (show e_rok 72 [94, 26] = true by decide +kernel)]
  show e_tv E_C (E_V 72) e_t72_0 [94, 26] M = _
  unfold e_t72_0
  simp [e_tv, e_ev, e_sv, e_b1, e_b2, x_o1, x_o2, g0, h0, c0, g1, h1, c1, g2, h2, c2, g3, h3, c3, g4, h4, c4, g5, h5, c5, f6, w6, f7, w7]
theorem p_72r (M : EM) : ∃ M1, E_C 72 [26, 94] M = some (0, M1) ∧ p_C 68 0 p_D72 M M1 := by
  have hd : p_dir 68 0 := by unfold p_dir; decide
  have g0 : ∀ M, e_gf 384 [94] M = some 95 := fun M => p_g 384 94 95 M (by decide +kernel)
  have h0 : ∀ M, e_gf 384 [26] M = some 27 := fun M => p_g 384 26 27 M (by decide +kernel)
  have c0 : ∀ M, E_C 148 [95, 27] M = some (0, e_cpm M 95 0 27 0 10) := fun M => p_co (n := 10) (by decide +kernel) (by decide +kernel) M
  have g1 : ∀ M, e_gf 385 [94] M = some 96 := fun M => p_g 385 94 96 M (by decide +kernel)
  have h1 : ∀ M, e_gf 385 [26] M = some 28 := fun M => p_g 385 26 28 M (by decide +kernel)
  have c1 : ∀ M, E_C 148 [96, 28] M = some (0, e_cpm M 96 0 28 0 10) := fun M => p_co (n := 10) (by decide +kernel) (by decide +kernel) M
  have g2 : ∀ M, e_gf 386 [94] M = some 97 := fun M => p_g 386 94 97 M (by decide +kernel)
  have h2 : ∀ M, e_gf 386 [26] M = some 29 := fun M => p_g 386 26 29 M (by decide +kernel)
  have c2 : ∀ M, E_C 148 [97, 29] M = some (0, e_cpm M 97 0 29 0 10) := fun M => p_co (n := 10) (by decide +kernel) (by decide +kernel) M
  have g3 : ∀ M, e_gf 387 [94] M = some 98 := fun M => p_g 387 94 98 M (by decide +kernel)
  have h3 : ∀ M, e_gf 387 [26] M = some 30 := fun M => p_g 387 26 30 M (by decide +kernel)
  have c3 : ∀ M, E_C 148 [98, 30] M = some (0, e_cpm M 98 0 30 0 12) := fun M => p_co (n := 12) (by decide +kernel) (by decide +kernel) M
  have g4 : ∀ M, e_gf 388 [94] M = some 99 := fun M => p_g 388 94 99 M (by decide +kernel)
  have h4 : ∀ M, e_gf 388 [26] M = some 31 := fun M => p_g 388 26 31 M (by decide +kernel)
  have c4 : ∀ M, E_C 148 [99, 31] M = some (0, e_cpm M 99 0 31 0 12) := fun M => p_co (n := 12) (by decide +kernel) (by decide +kernel) M
  have g5 : ∀ M, e_gf 389 [94] M = some 100 := fun M => p_g 389 94 100 M (by decide +kernel)
  have h5 : ∀ M, e_gf 389 [26] M = some 32 := fun M => p_g 389 26 32 M (by decide +kernel)
  have c5 : ∀ M, E_C 148 [100, 32] M = some (0, e_cpm M 100 0 32 0 120) := fun M => p_co (n := 120) (by decide +kernel) (by decide +kernel) M
  have f6 : ∀ M, e_gf 390 [94] M = some (M 94 6) := fun M => c_gf (by decide +kernel) (by decide +kernel)
  have w6 : ∀ v M, e_pf 390 [26, v] M = some (e_up M 26 6 v) := fun v M => c_pf (by decide +kernel) (by decide +kernel)
  have f7 : ∀ M, e_gf 391 [94] M = some (M 94 7) := fun M => c_gf (by decide +kernel) (by decide +kernel)
  have w7 : ∀ v M, e_pf 391 [26, v] M = some (e_up M 26 7 v) := fun v M => c_pf (by decide +kernel) (by decide +kernel)
  refine ⟨(e_up (e_up (e_cpm (e_cpm (e_cpm (e_cpm (e_cpm (e_cpm M 95 0 27 0 10) 96 0 28 0 10) 97 0 29 0 10) 98 0 30 0 12) 99 0 31 0 12) 100 0 32 0 120) 26 6 ((e_cpm (e_cpm (e_cpm (e_cpm (e_cpm (e_cpm M 95 0 27 0 10) 96 0 28 0 10) 97 0 29 0 10) 98 0 30 0 12) 99 0 31 0 12) 100 0 32 0 120) 94 6)) 26 7 ((e_up (e_cpm (e_cpm (e_cpm (e_cpm (e_cpm (e_cpm M 95 0 27 0 10) 96 0 28 0 10) 97 0 29 0 10) 98 0 30 0 12) 99 0 31 0 12) 100 0 32 0 120) 26 6 ((e_cpm (e_cpm (e_cpm (e_cpm (e_cpm (e_cpm M 95 0 27 0 10) 96 0 28 0 10) 97 0 29 0 10) 98 0 30 0 12) 99 0 31 0 12) 100 0 32 0 120) 94 6)) 94 7)), ?_, (p_C_cell (so := 68) (to := 0) (id := 26) (j := 7) hd (by decide) (p_C_cell (so := 68) (to := 0) (id := 26) (j := 6) hd (by decide) (p_C_row (so := 68) (to := 0) (id := 32) (n := 120) hd (by decide) (by decide) (p_C_row (so := 68) (to := 0) (id := 31) (n := 12) hd (by decide) (by decide) (p_C_row (so := 68) (to := 0) (id := 30) (n := 12) hd (by decide) (by decide) (p_C_row (so := 68) (to := 0) (id := 29) (n := 10) hd (by decide) (by decide) (p_C_row (so := 68) (to := 0) (id := 28) (n := 10) hd (by decide) (by decide) (p_C_row (so := 68) (to := 0) (id := 27) (n := 10) hd (by decide) (by decide) p_C_0))))))))⟩
  rw [r_ent (show e_rok 72 [26, 94] = true by decide +kernel)]
  show e_tv E_C (E_V 72) e_t72_0 [26, 94] M = _
  unfold e_t72_0
  simp [e_tv, e_ev, e_sv, e_b1, e_b2, x_o1, x_o2, g0, h0, c0, g1, h1, c1, g2, h2, c2, g3, h3, c3, g4, h4, c4, g5, h5, c5, f6, w6, f7, w7]
def p_D93 : AW := (33, 2, 2) :: (35, 0, 11) :: (34, 0, 11) :: []
theorem p_93i (M : EM) : ∃ M1, E_C 93 [101, 33] M = some (0, M1) ∧ p_C 0 68 p_D93 M M1 := by
  have hd : p_dir 0 68 := by unfold p_dir; decide
  have g0 : ∀ M, e_gf 576 [33] M = some 34 := fun M => p_g 576 33 34 M (by decide +kernel)
  have h0 : ∀ M, e_gf 576 [101] M = some 102 := fun M => p_g 576 101 102 M (by decide +kernel)
  have c0 : ∀ M, E_C 148 [34, 102] M = some (0, e_cpm M 34 0 102 0 12) := fun M => p_co (n := 12) (by decide +kernel) (by decide +kernel) M
  have g1 : ∀ M, e_gf 577 [33] M = some 35 := fun M => p_g 577 33 35 M (by decide +kernel)
  have h1 : ∀ M, e_gf 577 [101] M = some 103 := fun M => p_g 577 101 103 M (by decide +kernel)
  have c1 : ∀ M, E_C 148 [35, 103] M = some (0, e_cpm M 35 0 103 0 12) := fun M => p_co (n := 12) (by decide +kernel) (by decide +kernel) M
  have f2 : ∀ M, e_gf 578 [33] M = some (M 33 2) := fun M => c_gf (by decide +kernel) (by decide +kernel)
  have w2 : ∀ v M, e_pf 578 [101, v] M = some (e_up M 101 2 v) := fun v M => c_pf (by decide +kernel) (by decide +kernel)
  refine ⟨(e_up (e_cpm (e_cpm M 34 0 102 0 12) 35 0 103 0 12) 101 2 ((e_cpm (e_cpm M 34 0 102 0 12) 35 0 103 0 12) 33 2)), ?_, (p_C_cell (so := 0) (to := 68) (id := 33) (j := 2) hd (by decide) (p_C_row (so := 0) (to := 68) (id := 35) (n := 12) hd (by decide) (by decide) (p_C_row (so := 0) (to := 68) (id := 34) (n := 12) hd (by decide) (by decide) p_C_0)))⟩
  rw [r_ent (show e_rok 93 [101, 33] = true by decide +kernel)]
  show e_tv E_C (E_V 93) e_t93_0 [101, 33] M = _
  unfold e_t93_0
  simp [e_tv, e_ev, e_sv, e_b1, e_b2, x_o1, x_o2, g0, h0, c0, g1, h1, c1, f2, w2]
theorem p_93r (M : EM) : ∃ M1, E_C 93 [33, 101] M = some (0, M1) ∧ p_C 68 0 p_D93 M M1 := by
  have hd : p_dir 68 0 := by unfold p_dir; decide
  have g0 : ∀ M, e_gf 576 [101] M = some 102 := fun M => p_g 576 101 102 M (by decide +kernel)
  have h0 : ∀ M, e_gf 576 [33] M = some 34 := fun M => p_g 576 33 34 M (by decide +kernel)
  have c0 : ∀ M, E_C 148 [102, 34] M = some (0, e_cpm M 102 0 34 0 12) := fun M => p_co (n := 12) (by decide +kernel) (by decide +kernel) M
  have g1 : ∀ M, e_gf 577 [101] M = some 103 := fun M => p_g 577 101 103 M (by decide +kernel)
  have h1 : ∀ M, e_gf 577 [33] M = some 35 := fun M => p_g 577 33 35 M (by decide +kernel)
  have c1 : ∀ M, E_C 148 [103, 35] M = some (0, e_cpm M 103 0 35 0 12) := fun M => p_co (n := 12) (by decide +kernel) (by decide +kernel) M
  have f2 : ∀ M, e_gf 578 [101] M = some (M 101 2) := fun M => c_gf (by decide +kernel) (by decide +kernel)
  have w2 : ∀ v M, e_pf 578 [33, v] M = some (e_up M 33 2 v) := fun v M => c_pf (by decide +kernel) (by decide +kernel)
  refine ⟨(e_up (e_cpm (e_cpm M 102 0 34 0 12) 103 0 35 0 12) 33 2 ((e_cpm (e_cpm M 102 0 34 0 12) 103 0 35 0 12) 101 2)), ?_, (p_C_cell (so := 68) (to := 0) (id := 33) (j := 2) hd (by decide) (p_C_row (so := 68) (to := 0) (id := 35) (n := 12) hd (by decide) (by decide) (p_C_row (so := 68) (to := 0) (id := 34) (n := 12) hd (by decide) (by decide) p_C_0)))⟩
  rw [r_ent (show e_rok 93 [33, 101] = true by decide +kernel)]
  show e_tv E_C (E_V 93) e_t93_0 [33, 101] M = _
  unfold e_t93_0
  simp [e_tv, e_ev, e_sv, e_b1, e_b2, x_o1, x_o2, g0, h0, c0, g1, h1, c1, f2, w2]
end
section
/-! the class's takeAll, image and restore -/
theorem p_C_tr {so to : Nat} {D D' : AW} {M0 M1 M2 : EM} (hd : p_dir so to) (h : p_C so to D M0 M1) (k : p_C so to D' M1 M2) : p_C so to (D' ++ D) M0 M2 := by
  have hs : ∀ id j, 10 ≤ id ∧ id ≤ 76 → M1 (id + so) j = M0 (id + so) j := fun id j hi => p_C_src hd hi h j
  obtain ⟨h1, h2, h3⟩ := h
  obtain ⟨k1, k2, k3⟩ := k
  refine ⟨fun w hw j j0 j1 => ?_, fun id j hn => ?_, fun w hw => ?_⟩
  · by_cases c : ∃ w' ∈ D', w'.1 = w.1 ∧ w'.2.1 ≤ j ∧ j ≤ w'.2.2
    · obtain ⟨w', hw', e, e1, e2⟩ := c
      rw [← e, k1 w' hw' j e1 e2, hs _ _ (k3 w' hw')]
    · rcases List.mem_append.mp hw with hw | hw
      · exact absurd ⟨w, hw, rfl, j0, j1⟩ c
      · rw [k2 _ _ (fun w' hw' hc => c ⟨w', hw', by omega, hc.2⟩)]
        exact h1 w hw j j0 j1
  · rw [k2 _ _ (fun w hw hc => hn w (List.mem_append.mpr (Or.inl hw)) hc)]
    exact h2 _ _ (fun w hw hc => hn w (List.mem_append.mpr (Or.inr hw)) hc)
  · rcases List.mem_append.mp hw with hw | hw
    · exact k3 w hw
    · exact h3 w hw
theorem p_is7 {n : Nat} (h : (37 ≤ n ∧ n ≤ 76) ∨ (105 ≤ n ∧ n ≤ 144)) : e_isO 7 (n : Int) := (by decide +kernel : ∀ n : Fin 145, ((37 ≤ n.val ∧ n.val ≤ 76) ∨ (105 ≤ n.val ∧ n.val ≤ 144)) → e_isO 7 (n.val : Int)) ⟨n, by omega⟩ h
theorem p_80 {so to id s t : Nat} (hd : p_dir so to) (hi : 37 ≤ id ∧ id ≤ 76) (es : s = id + so) (et : t = id + to) {D : AW} {M0 M : EM} (h : p_C so to D M0 M) : ∃ M1, E_C 80 [(t : Int), (s : Int)] M = some (0, M1) ∧ p_C so to ((id, 4, 4) :: (id, 3, 3) :: (id, 2, 2) :: (id, 1, 1) :: (id, 0, 0) :: D) M0 M1 := by
  have is : e_isO 7 (s : Int) := p_is7 (by unfold p_dir at hd; omega)
  have it : e_isO 7 (t : Int) := p_is7 (by unfold p_dir at hd; omega)
  have g0 : ∀ M, e_gf 448 [(s : Int)] M = some (M s 0) := fun M => c_gf is (by decide +kernel)
  have w0 : ∀ v M, e_pf 448 [(t : Int), v] M = some (e_up M t 0 v) := fun v M => c_pf it (by decide +kernel)
  have g1 : ∀ M, e_gf 449 [(s : Int)] M = some (M s 1) := fun M => c_gf is (by decide +kernel)
  have w1 : ∀ v M, e_pf 449 [(t : Int), v] M = some (e_up M t 1 v) := fun v M => c_pf it (by decide +kernel)
  have g2 : ∀ M, e_gf 450 [(s : Int)] M = some (M s 2) := fun M => c_gf is (by decide +kernel)
  have w2 : ∀ v M, e_pf 450 [(t : Int), v] M = some (e_up M t 2 v) := fun v M => c_pf it (by decide +kernel)
  have g3 : ∀ M, e_gf 451 [(s : Int)] M = some (M s 3) := fun M => c_gf is (by decide +kernel)
  have w3 : ∀ v M, e_pf 451 [(t : Int), v] M = some (e_up M t 3 v) := fun v M => c_pf it (by decide +kernel)
  have g4 : ∀ M, e_gf 452 [(s : Int)] M = some (M s 4) := fun M => c_gf is (by decide +kernel)
  have w4 : ∀ v M, e_pf 452 [(t : Int), v] M = some (e_up M t 4 v) := fun v M => c_pf it (by decide +kernel)
  have hi10 : 10 ≤ id ∧ id ≤ 76 := ⟨by omega, hi.2⟩
  refine ⟨(e_up (e_up (e_up (e_up (e_up M t 0 (M s 0)) t 1 ((e_up M t 0 (M s 0)) s 1)) t 2 ((e_up (e_up M t 0 (M s 0)) t 1 ((e_up M t 0 (M s 0)) s 1)) s 2)) t 3 ((e_up (e_up (e_up M t 0 (M s 0)) t 1 ((e_up M t 0 (M s 0)) s 1)) t 2 ((e_up (e_up M t 0 (M s 0)) t 1 ((e_up M t 0 (M s 0)) s 1)) s 2)) s 3)) t 4 ((e_up (e_up (e_up (e_up M t 0 (M s 0)) t 1 ((e_up M t 0 (M s 0)) s 1)) t 2 ((e_up (e_up M t 0 (M s 0)) t 1 ((e_up M t 0 (M s 0)) s 1)) s 2)) t 3 ((e_up (e_up (e_up M t 0 (M s 0)) t 1 ((e_up M t 0 (M s 0)) s 1)) t 2 ((e_up (e_up M t 0 (M s 0)) t 1 ((e_up M t 0 (M s 0)) s 1)) s 2)) s 3)) s 4)), ?_, ?_⟩
  · rw [r_ent (show e_rok 80 [(t : Int), (s : Int)] = true from decide_eq_true it)]
    show e_tv E_C (E_V 80) e_t80_0 [(t : Int), (s : Int)] M = _
    unfold e_t80_0
    simp [e_tv, e_ev, e_sv, e_b1, e_b2, x_o1, x_o2, g0, g1, g2, g3, g4, w0, w1, w2, w3, w4]
  · subst es et
    exact (p_C_cell (j := 4) hd hi10 (p_C_cell (j := 3) hd hi10 (p_C_cell (j := 2) hd hi10 (p_C_cell (j := 1) hd hi10 (p_C_cell (j := 0) hd hi10 h)))))
def p_DL : Nat → AW
  | 0 => []
  | i + 1 => (37 + i, 4, 4) :: (37 + i, 3, 3) :: (37 + i, 2, 2) :: (37 + i, 1, 1) :: (37 + i, 0, 0) :: p_DL i
theorem p_gr25 {i : Nat} (h : i < 40) : e_gr 25 i = ((37 + i : Nat) : Int) ∧ e_gr 93 i = ((105 + i : Nat) : Int) := (by decide +kernel : ∀ i : Fin 40, e_gr 25 i.val = ((37 + i.val : Nat) : Int) ∧ e_gr 93 i.val = ((105 + i.val : Nat) : Int)) ⟨i, h⟩
theorem p_len {a : Int} {n : Nat} (h : 8 ≤ a ∧ a.toNat < e_N ∧ 100 ≤ (e_sh a.toNat).1 ∧ (e_sh a.toNat).2 = n) (M : EM) : e_op 63 [a] M = some (n : Int) := by
  obtain ⟨h1, h2, h3, h4⟩ := h
  have z : e_sz M a.toNat = n := (if_neg (by omega)).trans h4
  have h0 : 0 ≤ a := by omega
  simp [e_op, z, h0, h2, h3]
theorem p_len25 (M : EM) : e_op 63 [25] M = some 40 ∧ e_op 63 [93] M = some 40 := ⟨p_len (n := 40) (by decide +kernel) M, p_len (n := 40) (by decide +kernel) M⟩
theorem p_rd25 {i : Nat} (h : i < 40) (M : EM) : e_op 62 [25, (i : Int)] M = some ((37 + i : Nat) : Int) ∧ e_op 62 [93, (i : Int)] M = some ((105 + i : Nat) : Int) := by
  have z1 : e_sz M 25 = 40 := (if_neg (by decide)).trans (by decide +kernel)
  have z2 : e_sz M 93 = 40 := (if_neg (by decide)).trans (by decide +kernel)
  refine ⟨?_, ?_⟩
  · have c : (0 : Int) ≤ 25 ∧ (25 : Int).toNat < e_N ∧ 102 ≤ (e_sh (25 : Int).toNat).1 ∧ 0 ≤ (i : Int) ∧ (i : Int).toNat < e_sz M (25 : Int).toNat := ⟨by decide, by decide +kernel, by decide +kernel, by omega, by show _ < e_sz M 25; omega⟩
    exact (if_pos c).trans (congrArg some ((congrArg (e_gr 25) (Int.toNat_natCast i)).trans (p_gr25 h).1))
  · have c : (0 : Int) ≤ 93 ∧ (93 : Int).toNat < e_N ∧ 102 ≤ (e_sh (93 : Int).toNat).1 ∧ 0 ≤ (i : Int) ∧ (i : Int).toNat < e_sz M (93 : Int).toNat := ⟨by decide, by decide +kernel, by decide +kernel, by omega, by show _ < e_sz M 93; omega⟩
    exact (if_pos c).trans (congrArg some ((congrArg (e_gr 93) (Int.toNat_natCast i)).trans (p_gr25 h).2))
def p_D48 : AW := p_D93 ++ (p_D72 ++ (p_DL 40 ++ (p_D34 ++ p_D51)))

theorem p_48i_step {i : Nat} (h : i < 40) {x3 x4 : Int} {D : AW} {M0 M : EM} (hC : p_C 0 68 (p_DL i ++ D) M0 M) : ∃ y3 y4 M1, E_V 48 24 [77, 9, (i : Int), x3, x4] M = E_V 48 24 [77, 9, ((i + 1 : Nat) : Int), y3, y4] M1 ∧ p_C 0 68 (p_DL (i + 1) ++ D) M0 M1 := by
  have hd : p_dir 0 68 := by unfold p_dir; decide
  obtain ⟨M1, k, c⟩ := p_80 (id := 37 + i) (s := 37 + i) (t := 105 + i) hd ⟨by omega, by omega⟩ (by omega) (by omega) hC
  have fs : ∀ M, e_gf 194 [9] M = some 25 := fun M => p_g 194 9 25 M (by decide +kernel)
  have ft : ∀ M, e_gf 194 [77] M = some 93 := fun M => p_g 194 77 93 M (by decide +kernel)
  have ls := fun M => (p_len25 M).1
  have lt := fun M => (p_len25 M).2
  have rs := fun M => (p_rd25 h M).1
  have rt := fun M => (p_rd25 h M).2
  refine ⟨(((105 + i : Nat)) : Int), (((37 + i : Nat)) : Int), M1, ?_, c⟩
  generalize hb : ((105 + i : Nat) : Int) = bt at k rt ⊢
  generalize hc : ((37 + i : Nat) : Int) = bs at k rs ⊢
  generalize hi1 : ((i + 1 : Nat) : Int) = i1
  generalize hi0 : (i : Int) = i0 at rs rt ⊢
  have nb : ¬ (bt = -1) := by omega
  have nc : ¬ (bs = -1) := by omega
  have w : e_w (i0 + 1) = i1 := (a_w_id (by omega) (by omega)).trans (by omega)
  have q : i0 < 40 := by omega
  have q_n : ¬ (40 ≤ i0) := by omega
  have e72 : ∀ M, E_V 48 72 [77, 9, i0, bt, bs] M = E_V 48 24 [77, 9, i1, bt, bs] M := by
    intro M
    rw [E_V_eq]
    show e_tv E_C (E_V 48) e_t48_72 [77, 9, i0, bt, bs] M = _
    unfold e_t48_72
    simp [e_tv, e_ev, e_sv, e_b1, e_b2, x_o1, x_o2, w]
  rw [E_V_eq]
  show e_tv E_C (E_V 48) e_t48_24 [77, 9, i0, x3, x4] M = _
  unfold e_t48_24
  simp [e_tv, e_ev, e_sv, e_b1, e_b2, x_o1, x_o2, fs, ft, ls, lt, rs, rt, nb, nc, q, q_n, k, e72]
theorem p_48i_loop {D : AW} {M0 : EM} : ∀ (m i : Nat) (x3 x4 : Int) (M : EM), i + m = 40 → p_C 0 68 (p_DL i ++ D) M0 M → ∃ y3 y4 M1, E_V 48 24 [77, 9, (i : Int), x3, x4] M = E_V 48 24 [77, 9, 40, y3, y4] M1 ∧ p_C 0 68 (p_DL 40 ++ D) M0 M1 := by
  intro m
  induction m with
  | zero =>
    intro i x3 x4 M hm hC
    have e : i = 40 := by omega
    subst e
    exact ⟨x3, x4, M, rfl, hC⟩
  | succ m ih =>
    intro i x3 x4 M hm hC
    obtain ⟨y3, y4, M1, k, c⟩ := p_48i_step (by omega) (x3 := x3) (x4 := x4) hC
    obtain ⟨z3, z4, M2, k2, c2⟩ := ih (i + 1) y3 y4 M1 (by omega) c
    exact ⟨z3, z4, M2, k.trans k2, c2⟩
theorem p_48i (M : EM) : ∃ M1, E_C 48 [77, 9] M = some (0, M1) ∧ p_C 0 68 p_D48 M M1 := by
  have hd : p_dir 0 68 := by unfold p_dir; decide
  obtain ⟨M1, k1, c1⟩ := p_51i M
  obtain ⟨M2, k2, c2⟩ := p_34i M1
  obtain ⟨y3, y4, M3, k3, c3⟩ := p_48i_loop (D := p_D34 ++ p_D51) 40 0 0 0 M2 rfl (show p_C 0 68 (p_D34 ++ p_D51) M M2 from p_C_tr hd c1 c2)
  obtain ⟨M4, k4, c4⟩ := p_72i M3
  obtain ⟨M5, k5, c5⟩ := p_93i M4
  have k3' : E_V 48 24 [77, 9, 0, 0, 0] M2 = E_V 48 24 [77, 9, 40, y3, y4] M3 := k3
  have fs : ∀ M, e_gf 194 [9] M = some 25 := fun M => p_g 194 9 25 M (by decide +kernel)
  have ft : ∀ M, e_gf 194 [77] M = some 93 := fun M => p_g 194 77 93 M (by decide +kernel)
  have a0 : ∀ M, e_gf 192 [9] M = some 10 := fun M => p_g 192 9 10 M (by decide +kernel)
  have b0 : ∀ M, e_gf 192 [77] M = some 78 := fun M => p_g 192 77 78 M (by decide +kernel)
  have a1 : ∀ M, e_gf 193 [9] M = some 18 := fun M => p_g 193 9 18 M (by decide +kernel)
  have b1 : ∀ M, e_gf 193 [77] M = some 86 := fun M => p_g 193 77 86 M (by decide +kernel)
  have a3 : ∀ M, e_gf 195 [9] M = some 26 := fun M => p_g 195 9 26 M (by decide +kernel)
  have b3 : ∀ M, e_gf 195 [77] M = some 94 := fun M => p_g 195 77 94 M (by decide +kernel)
  have a4 : ∀ M, e_gf 196 [9] M = some 33 := fun M => p_g 196 9 33 M (by decide +kernel)
  have b4 : ∀ M, e_gf 196 [77] M = some 101 := fun M => p_g 196 77 101 M (by decide +kernel)
  have ls := fun M => (p_len25 M).1
  have lt := fun M => (p_len25 M).2
  have kE : E_V 48 24 [77, 9, 40, y3, y4] M3 = some (0, M5) := by
    rw [E_V_eq]
    show e_tv E_C (E_V 48) e_t48_24 [77, 9, 40, y3, y4] M3 = _
    unfold e_t48_24
    simp [e_tv, e_ev, e_sv, e_b1, e_b2, x_o1, x_o2, fs, ft, ls, lt, a3, b3, a4, b4, k4, k5]
  refine ⟨M5, ?_, p_C_tr hd (p_C_tr hd c3 c4) c5⟩
  rw [r_ent (show e_rok 48 [77, 9] = true by decide +kernel)]
  show e_tv E_C (E_V 48) e_t48_0 [77, 9, 0, 0, 0] M = _
  unfold e_t48_0
  simp [e_tv, e_ev, e_sv, e_b1, e_b2, x_o1, x_o2, a0, b0, a1, b1, k1, k2, k3', kE]

theorem p_48r_step {i : Nat} (h : i < 40) {x3 x4 : Int} {D : AW} {M0 M : EM} (hC : p_C 68 0 (p_DL i ++ D) M0 M) : ∃ y3 y4 M1, E_V 48 24 [9, 77, (i : Int), x3, x4] M = E_V 48 24 [9, 77, ((i + 1 : Nat) : Int), y3, y4] M1 ∧ p_C 68 0 (p_DL (i + 1) ++ D) M0 M1 := by
  have hd : p_dir 68 0 := by unfold p_dir; decide
  obtain ⟨M1, k, c⟩ := p_80 (id := 37 + i) (s := 105 + i) (t := 37 + i) hd ⟨by omega, by omega⟩ (by omega) (by omega) hC
  have fs : ∀ M, e_gf 194 [77] M = some 93 := fun M => p_g 194 77 93 M (by decide +kernel)
  have ft : ∀ M, e_gf 194 [9] M = some 25 := fun M => p_g 194 9 25 M (by decide +kernel)
  have ls := fun M => (p_len25 M).2
  have lt := fun M => (p_len25 M).1
  have rs := fun M => (p_rd25 h M).2
  have rt := fun M => (p_rd25 h M).1
  refine ⟨(((37 + i : Nat)) : Int), (((105 + i : Nat)) : Int), M1, ?_, c⟩
  generalize hb : ((37 + i : Nat) : Int) = bt at k rt ⊢
  generalize hc : ((105 + i : Nat) : Int) = bs at k rs ⊢
  generalize hi1 : ((i + 1 : Nat) : Int) = i1
  generalize hi0 : (i : Int) = i0 at rs rt ⊢
  have nb : ¬ (bt = -1) := by omega
  have nc : ¬ (bs = -1) := by omega
  have w : e_w (i0 + 1) = i1 := (a_w_id (by omega) (by omega)).trans (by omega)
  have q : i0 < 40 := by omega
  have q_n : ¬ (40 ≤ i0) := by omega
  have e72 : ∀ M, E_V 48 72 [9, 77, i0, bt, bs] M = E_V 48 24 [9, 77, i1, bt, bs] M := by
    intro M
    rw [E_V_eq]
    show e_tv E_C (E_V 48) e_t48_72 [9, 77, i0, bt, bs] M = _
    unfold e_t48_72
    simp [e_tv, e_ev, e_sv, e_b1, e_b2, x_o1, x_o2, w]
  rw [E_V_eq]
  show e_tv E_C (E_V 48) e_t48_24 [9, 77, i0, x3, x4] M = _
  unfold e_t48_24
  simp [e_tv, e_ev, e_sv, e_b1, e_b2, x_o1, x_o2, fs, ft, ls, lt, rs, rt, nb, nc, q, q_n, k, e72]
theorem p_48r_loop {D : AW} {M0 : EM} : ∀ (m i : Nat) (x3 x4 : Int) (M : EM), i + m = 40 → p_C 68 0 (p_DL i ++ D) M0 M → ∃ y3 y4 M1, E_V 48 24 [9, 77, (i : Int), x3, x4] M = E_V 48 24 [9, 77, 40, y3, y4] M1 ∧ p_C 68 0 (p_DL 40 ++ D) M0 M1 := by
  intro m
  induction m with
  | zero =>
    intro i x3 x4 M hm hC
    have e : i = 40 := by omega
    subst e
    exact ⟨x3, x4, M, rfl, hC⟩
  | succ m ih =>
    intro i x3 x4 M hm hC
    obtain ⟨y3, y4, M1, k, c⟩ := p_48r_step (by omega) (x3 := x3) (x4 := x4) hC
    obtain ⟨z3, z4, M2, k2, c2⟩ := ih (i + 1) y3 y4 M1 (by omega) c
    exact ⟨z3, z4, M2, k.trans k2, c2⟩
theorem p_48r (M : EM) : ∃ M1, E_C 48 [9, 77] M = some (0, M1) ∧ p_C 68 0 p_D48 M M1 := by
  have hd : p_dir 68 0 := by unfold p_dir; decide
  obtain ⟨M1, k1, c1⟩ := p_51r M
  obtain ⟨M2, k2, c2⟩ := p_34r M1
  obtain ⟨y3, y4, M3, k3, c3⟩ := p_48r_loop (D := p_D34 ++ p_D51) 40 0 0 0 M2 rfl (show p_C 68 0 (p_D34 ++ p_D51) M M2 from p_C_tr hd c1 c2)
  obtain ⟨M4, k4, c4⟩ := p_72r M3
  obtain ⟨M5, k5, c5⟩ := p_93r M4
  have k3' : E_V 48 24 [9, 77, 0, 0, 0] M2 = E_V 48 24 [9, 77, 40, y3, y4] M3 := k3
  have fs : ∀ M, e_gf 194 [77] M = some 93 := fun M => p_g 194 77 93 M (by decide +kernel)
  have ft : ∀ M, e_gf 194 [9] M = some 25 := fun M => p_g 194 9 25 M (by decide +kernel)
  have a0 : ∀ M, e_gf 192 [77] M = some 78 := fun M => p_g 192 77 78 M (by decide +kernel)
  have b0 : ∀ M, e_gf 192 [9] M = some 10 := fun M => p_g 192 9 10 M (by decide +kernel)
  have a1 : ∀ M, e_gf 193 [77] M = some 86 := fun M => p_g 193 77 86 M (by decide +kernel)
  have b1 : ∀ M, e_gf 193 [9] M = some 18 := fun M => p_g 193 9 18 M (by decide +kernel)
  have a3 : ∀ M, e_gf 195 [77] M = some 94 := fun M => p_g 195 77 94 M (by decide +kernel)
  have b3 : ∀ M, e_gf 195 [9] M = some 26 := fun M => p_g 195 9 26 M (by decide +kernel)
  have a4 : ∀ M, e_gf 196 [77] M = some 101 := fun M => p_g 196 77 101 M (by decide +kernel)
  have b4 : ∀ M, e_gf 196 [9] M = some 33 := fun M => p_g 196 9 33 M (by decide +kernel)
  have ls := fun M => (p_len25 M).2
  have lt := fun M => (p_len25 M).1
  have kE : E_V 48 24 [9, 77, 40, y3, y4] M3 = some (0, M5) := by
    rw [E_V_eq]
    show e_tv E_C (E_V 48) e_t48_24 [9, 77, 40, y3, y4] M3 = _
    unfold e_t48_24
    simp [e_tv, e_ev, e_sv, e_b1, e_b2, x_o1, x_o2, fs, ft, ls, lt, a3, b3, a4, b4, k4, k5]
  refine ⟨M5, ?_, p_C_tr hd (p_C_tr hd c3 c4) c5⟩
  rw [r_ent (show e_rok 48 [9, 77] = true by decide +kernel)]
  show e_tv E_C (E_V 48) e_t48_0 [9, 77, 0, 0, 0] M = _
  unfold e_t48_0
  simp [e_tv, e_ev, e_sv, e_b1, e_b2, x_o1, x_o2, a0, b0, a1, b1, k1, k2, k3', kE]

theorem p_705 (M : EM) : e_gf 705 [8] M = some 77 := p_g 705 8 77 M (by decide +kernel)
theorem p_706 (M : EM) : e_gf 706 [8] M = some (M 8 2) := c_gf c_this (by decide +kernel)
theorem p_p706 (v : Int) (M : EM) : e_pf 706 [8, v] M = some (e_up M 8 2 v) := c_pf c_this (by decide +kernel)
theorem p_192 (M : EM) : e_gf 192 [9] M = some 10 := p_g 192 9 10 M (by decide +kernel)
theorem p_256 (M : EM) : e_gf 256 [10] M = some (M 10 0) := c_gf (by decide +kernel) (by decide +kernel)
theorem p_image (M : EM) : ∃ M1, E_C 136 [8] M = some (M 10 0, e_up M1 8 2 1) ∧ p_C 0 68 p_D48 M M1 := by
  obtain ⟨M1, k, c⟩ := p_48i M
  have e : M1 10 0 = M 10 0 := c.2.1 10 0 (fun w hw hc => by have := c.2.2 w hw; omega)
  have e2 : (e_up M1 8 2 1) 10 0 = M 10 0 := (c_up_n (fun h => absurd h.1 (by decide))).trans e
  refine ⟨M1, ?_, c⟩
  rw [r_ent (show e_rok 136 [8] = true from decide_eq_true c_this)]
  show e_tv E_C (E_V 136) e_t136_0 [8] M = _
  unfold e_t136_0
  simp [e_tv, e_ev, e_sv, e_b1, e_b2, x_o1, x_o2, p_704, p_705, p_p706, p_192, p_256, k, e2]
theorem p_restore {M : EM} (h : M 8 2 ≠ 0) : ∃ M1, E_C 137 [8] M = some (M1 10 0, M1) ∧ p_C 68 0 p_D48 M M1 := by
  obtain ⟨M1, k, c⟩ := p_48r M
  refine ⟨M1, ?_, c⟩
  rw [r_ent (show e_rok 137 [8] = true from decide_eq_true c_this)]
  show e_tv E_C (E_V 137) e_t137_0 [8] M = _
  unfold e_t137_0
  simp [e_tv, e_ev, e_sv, e_b1, e_b2, x_o1, x_o2, p_704, p_705, p_706, p_192, p_256, h, k]
theorem p_restore0 {M : EM} (h : M 8 2 = 0) : E_C 137 [8] M = some (-3, M) := by
  rw [r_ent (show e_rok 137 [8] = true from decide_eq_true c_this)]
  show e_tv E_C (E_V 137) e_t137_0 [8] M = _
  unfold e_t137_0
  simp [e_tv, e_ev, e_sv, e_b1, e_b2, x_o1, x_o2, p_706, h]
end
