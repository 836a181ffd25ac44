/-! a HOUSE over another: the class's image and restore, exactly -/
def p_dir (so to : Nat) : Prop := (so = 0 ∧ to = 68) ∨ (so = 68 ∧ to = 0)
/-- what D says (of the live HOUSE's cells) has been taken over, from those so further on to those to further on; nothing else is written -/
def p_C (so to : Nat) (D : AW) (M0 M : EM) : Prop := (∀ w ∈ D, ∀ k, w.2.1 ≤ k → k ≤ w.2.2 → M (w.1 + to) k = M0 (w.1 + so) k) ∧ (∀ id k, (∀ w ∈ D, ¬ (id = w.1 + to ∧ w.2.1 ≤ k ∧ k ≤ w.2.2)) → M id k = M0 id k) ∧ ∀ w ∈ D, 10 ≤ w.1 ∧ w.1 ≤ 76
theorem p_C_0 {so to : Nat} {M : EM} : p_C so to [] M M := ⟨fun w hw => (by cases hw), fun _ _ _ => rfl, fun w hw => (by cases hw)⟩
theorem p_C_src {so to id : Nat} {D : AW} {M0 M : EM} (hd : p_dir so to) (hi : 10 ≤ id ∧ id ≤ 76) (h : p_C so to D M0 M) (k : Nat) : M (id + so) k = M0 (id + so) k := h.2.1 _ _ (fun w hw hc => by
  have := h.2.2 w hw
  unfold p_dir at hd
  omega)
theorem p_C_row {so to id n : Nat} {D : AW} {M0 M : EM} (hd : p_dir so to) (hi : 10 ≤ id ∧ id ≤ 76) (hn : 0 < n) (h : p_C so to D M0 M) : p_C so to ((id, 0, n - 1) :: D) M0 (e_cpm M (id + so) 0 (id + to) 0 n) := by
  have hsrc := p_C_src hd hi h
  obtain ⟨h1, h2, h3⟩ := h
  refine ⟨fun w hw k k0 k1 => ?_, fun i k hk => ?_, fun w hw => ?_⟩
  · unfold e_cpm
    by_cases c : w.1 + to = id + to ∧ 0 ≤ k ∧ k < 0 + n
    · rw [if_pos c, hsrc]
      have e : w.1 = id := by omega
      rw [e]
      congr 1
      omega
    · rw [if_neg c]
      rcases List.mem_cons.mp hw with e | hw
      · subst e
        exact absurd ⟨rfl, Nat.zero_le _, by dsimp only at k1; omega⟩ c
      · exact h1 w hw k k0 k1
  · unfold e_cpm
    rw [if_neg (fun c => hk _ List.mem_cons_self ⟨c.1, Nat.zero_le _, by have := c.2.2; dsimp only; omega⟩)]
    exact h2 i k (fun w hw hc => hk w (List.mem_cons_of_mem _ hw) hc)
  · rcases List.mem_cons.mp hw with e | hw
    · subst e
      exact hi
    · exact h3 w hw
theorem p_C_cell {so to id j : Nat} {D : AW} {M0 M : EM} (hd : p_dir so to) (hi : 10 ≤ id ∧ id ≤ 76) (h : p_C so to D M0 M) : p_C so to ((id, j, j) :: D) M0 (e_up M (id + to) j (M (id + so) j)) := by
  have hsrc := p_C_src hd hi h
  obtain ⟨h1, h2, h3⟩ := h
  refine ⟨fun w hw k k0 k1 => ?_, fun i k hk => ?_, fun w hw => ?_⟩
  · by_cases c : w.1 + to = id + to ∧ k = j
    · have e : w.1 = id := by omega
      rw [e, c.2, c_up_s, hsrc]
    · rw [c_up_n c]
      rcases List.mem_cons.mp hw with e | hw
      · subst e
        exact absurd ⟨rfl, by dsimp only at k0 k1; omega⟩ c
      · exact h1 w hw k k0 k1
  · rw [c_up_n (fun c => hk _ List.mem_cons_self ⟨c.1, by dsimp only; omega, by dsimp only; omega⟩)]
    exact h2 i k (fun w hw hc => hk w (List.mem_cons_of_mem _ hw) hc)
  · rcases List.mem_cons.mp hw with e | hw
    · subst e
      exact hi
    · exact h3 w hw
theorem p_co {a b : Int} {n : Nat} (ha : 8 ≤ a ∧ a.toNat < e_N ∧ e_sh a.toNat = (100, n)) (hb : 8 ≤ b ∧ b.toNat < e_N ∧ e_sh b.toNat = (100, n)) (M : EM) : E_C 148 [a, b] M = some (0, e_cpm M a.toNat 0 b.toNat 0 n) := by
  obtain ⟨a1, a2, a3⟩ := ha
  obtain ⟨b1, b2, b3⟩ := hb
  rw [r_ent (show e_rok 148 [a, b] = true from rfl)]
  show e_tv E_C (E_V 148) e_t148_0 [a, b] M = _
  unfold e_t148_0
  have za : e_sz M a.toNat = n := (if_neg (show ¬ a.toNat = 0 by omega)).trans (by rw [a3])
  have zb : e_sz M b.toNat = n := (if_neg (show ¬ b.toNat = 0 by omega)).trans (by rw [b3])
  have na : ¬ (a = -1) := by omega
  have nb : ¬ (b = -1) := by omega
  have a0 : 0 ≤ a := by omega
  have b0 : 0 ≤ b := by omega
  have hcp : e_cp [a, 0, b, 0, (n : Int)] M = some (e_cpm M a.toNat 0 b.toNat 0 n) := by
    have h : e_isO 100 b ∧ e_isO 100 a ∧ (0 : Int) ≤ 0 ∧ (0 : Int) ≤ 0 ∧ (0 : Int) ≤ (n : Int) ∧ (0 : Int) + n ≤ (e_sh a.toNat).2 ∧ (0 : Int) + n ≤ (e_sh b.toNat).2 := by
      refine ⟨⟨by omega, b2, by rw [b3]⟩, ⟨by omega, a2, by rw [a3]⟩, by omega, by omega, by omega, ?_, ?_⟩
      · rw [a3]; dsimp only; omega
      · rw [b3]; dsimp only; omega
    exact (if_pos h).trans (by rw [Int.toNat_natCast]; rfl)
  simp [e_tv, e_ev, e_sv, e_op, e_b1, e_b2, na, nb, a0, b0, za, zb, a2, a3, b2, b3, hcp]

def p_D51 : AW := (17, 0, 319) :: (16, 0, 319) :: (15, 0, 319) :: (14, 0, 39) :: (13, 0, 39) :: (12, 0, 39) :: (11, 0, 39) :: (10, 0, 0) :: []
theorem p_51i (M : EM) : ∃ M1, E_C 51 [78, 10] M = some (0, M1) ∧ p_C 0 68 p_D51 M M1 := by
  have hd : p_dir 0 68 := by unfold p_dir; decide
  have f0 : ∀ M, e_gf 256 [10] M = some (M 10 0) := fun M => c_gf (by decide +kernel) (by decide +kernel)
  have w0 : ∀ v M, e_pf 256 [78, v] M = some (e_up M 78 0 v) := fun v M => c_pf (by decide +kernel) (by decide +kernel)
  have g1 : ∀ M, e_gf 257 [10] M = some 11 := fun M => p_g 257 10 11 M (by decide +kernel)
  have h1 : ∀ M, e_gf 257 [78] M = some 79 := fun M => p_g 257 78 79 M (by decide +kernel)
  have c1 : ∀ M, E_C 148 [11, 79] M = some (0, e_cpm M 11 0 79 0 40) := fun M => p_co (n := 40) (by decide +kernel) (by decide +kernel) M
  have g2 : ∀ M, e_gf 258 [10] M = some 12 := fun M => p_g 258 10 12 M (by decide +kernel)
  have h2 : ∀ M, e_gf 258 [78] M = some 80 := fun M => p_g 258 78 80 M (by decide +kernel)
  have c2 : ∀ M, E_C 148 [12, 80] M = some (0, e_cpm M 12 0 80 0 40) := fun M => p_co (n := 40) (by decide +kernel) (by decide +kernel) M
  have g3 : ∀ M, e_gf 259 [10] M = some 13 := fun M => p_g 259 10 13 M (by decide +kernel)
  have h3 : ∀ M, e_gf 259 [78] M = some 81 := fun M => p_g 259 78 81 M (by decide +kernel)
  have c3 : ∀ M, E_C 148 [13, 81] M = some (0, e_cpm M 13 0 81 0 40) := fun M => p_co (n := 40) (by decide +kernel) (by decide +kernel) M
  have g4 : ∀ M, e_gf 260 [10] M = some 14 := fun M => p_g 260 10 14 M (by decide +kernel)
  have h4 : ∀ M, e_gf 260 [78] M = some 82 := fun M => p_g 260 78 82 M (by decide +kernel)
  have c4 : ∀ M, E_C 148 [14, 82] M = some (0, e_cpm M 14 0 82 0 40) := fun M => p_co (n := 40) (by decide +kernel) (by decide +kernel) M
  have g5 : ∀ M, e_gf 261 [10] M = some 15 := fun M => p_g 261 10 15 M (by decide +kernel)
  have h5 : ∀ M, e_gf 261 [78] M = some 83 := fun M => p_g 261 78 83 M (by decide +kernel)
  have c5 : ∀ M, E_C 148 [15, 83] M = some (0, e_cpm M 15 0 83 0 320) := fun M => p_co (n := 320) (by decide +kernel) (by decide +kernel) M
  have g6 : ∀ M, e_gf 262 [10] M = some 16 := fun M => p_g 262 10 16 M (by decide +kernel)
  have h6 : ∀ M, e_gf 262 [78] M = some 84 := fun M => p_g 262 78 84 M (by decide +kernel)
  have c6 : ∀ M, E_C 148 [16, 84] M = some (0, e_cpm M 16 0 84 0 320) := fun M => p_co (n := 320) (by decide +kernel) (by decide +kernel) M
  have g7 : ∀ M, e_gf 263 [10] M = some 17 := fun M => p_g 263 10 17 M (by decide +kernel)
  have h7 : ∀ M, e_gf 263 [78] M = some 85 := fun M => p_g 263 78 85 M (by decide +kernel)
  have c7 : ∀ M, E_C 148 [17, 85] M = some (0, e_cpm M 17 0 85 0 320) := fun M => p_co (n := 320) (by decide +kernel) (by decide +kernel) M
  refine ⟨(e_cpm (e_cpm (e_cpm (e_cpm (e_cpm (e_cpm (e_cpm (e_up M 78 0 (M 10 0)) 11 0 79 0 40) 12 0 80 0 40) 13 0 81 0 40) 14 0 82 0 40) 15 0 83 0 320) 16 0 84 0 320) 17 0 85 0 320), ?_, (p_C_row (so := 0) (to := 68) (id := 17) (n := 320) hd (by decide) (by decide) (p_C_row (so := 0) (to := 68) (id := 16) (n := 320) hd (by decide) (by decide) (p_C_row (so := 0) (to := 68) (id := 15) (n := 320) hd (by decide) (by decide) (p_C_row (so := 0) (to := 68) (id := 14) (n := 40) hd (by decide) (by decide) (p_C_row (so := 0) (to := 68) (id := 13) (n := 40) hd (by decide) (by decide) (p_C_row (so := 0) (to := 68) (id := 12) (n := 40) hd (by decide) (by decide) (p_C_row (so := 0) (to := 68) (id := 11) (n := 40) hd (by decide) (by decide) (p_C_cell (so := 0) (to := 68) (id := 10) (j := 0) hd (by decide) p_C_0))))))))⟩
  rw [r_ent (show e_rok 51 [78, 10] = true by decide +kernel)]
  show e_tv E_C (E_V 51) e_t51_0 [78, 10] M = _
  unfold e_t51_0
  simp [e_tv, e_ev, e_sv, e_b1, e_b2, x_o1, x_o2, f0, w0, g1, h1, c1, g2, h2, c2, g3, h3, c3, g4, h4, c4, g5, h5, c5, g6, h6, c6, g7, h7, c7]
