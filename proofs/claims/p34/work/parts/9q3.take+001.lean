theorem p_48i_loop {D : AW} {M0 : EM} : ∀ (m i : Nat) (x3 x4 : Int) (M : EM), i + m = 40 → p_C 0 68 (p_DL i ++ D) M0 M → ∃ y3 y4 M1, E_V 48 24 [77, 9, (i : Int), x3, x4] M = E_V 48 24 [77, 9, 40, y3, y4] M1 ∧ p_C 0 68 (p_DL 40 ++ D) M0 M1 := by
  intro m
  induction m with
  | zero =>
    intro i x3 x4 M hm hC
    have e : i = 40 := by omega
    subst e
    exact ⟨x3, x4, M, rfl, hC⟩
  | succ m ih =>
    intro i x3 x4 M hm hC
    obtain ⟨y3, y4, M1, k, c⟩ := p_48i_step (by omega) (x3 := x3) (x4 := x4) hC
    obtain ⟨z3, z4, M2, k2, c2⟩ := ih (i + 1) y3 y4 M1 (by omega) c
    exact ⟨z3, z4, M2, k.trans k2, c2⟩
theorem p_48i (M : EM) : ∃ M1, E_C 48 [77, 9] M = some (0, M1) ∧ p_C 0 68 p_D48 M M1 := by
  have hd : p_dir 0 68 := by unfold p_dir; decide
  obtain ⟨M1, k1, c1⟩ := p_51i M
  obtain ⟨M2, k2, c2⟩ := p_34i M1
  obtain ⟨y3, y4, M3, k3, c3⟩ := p_48i_loop (D := p_D34 ++ p_D51) 40 0 0 0 M2 rfl (show p_C 0 68 (p_D34 ++ p_D51) M M2 from p_C_tr hd c1 c2)
  obtain ⟨M4, k4, c4⟩ := p_72i M3
  obtain ⟨M5, k5, c5⟩ := p_93i M4
  have k3' : E_V 48 24 [77, 9, 0, 0, 0] M2 = E_V 48 24 [77, 9, 40, y3, y4] M3 := k3
  have fs : ∀ M, e_gf 194 [9] M = some 25 := fun M => p_g 194 9 25 M (by decide +kernel)
  have ft : ∀ M, e_gf 194 [77] M = some 93 := fun M => p_g 194 77 93 M (by decide +kernel)
  have a0 : ∀ M, e_gf 192 [9] M = some 10 := fun M => p_g 192 9 10 M (by decide +kernel)
  have b0 : ∀ M, e_gf 192 [77] M = some 78 := fun M => p_g 192 77 78 M (by decide +kernel)
  have a1 : ∀ M, e_gf 193 [9] M = some 18 := fun M => p_g 193 9 18 M (by decide +kernel)
  have b1 : ∀ M, e_gf 193 [77] M = some 86 := fun M => p_g 193 77 86 M (by decide +kernel)
  have a3 : ∀ M, e_gf 195 [9] M = some 26 := fun M => p_g 195 9 26 M (by decide +kernel)
  have b3 : ∀ M, e_gf 195 [77] M = some 94 := fun M => p_g 195 77 94 M (by decide +kernel)
  have a4 : ∀ M, e_gf 196 [9] M = some 33 := fun M => p_g 196 9 33 M (by decide +kernel)
  have b4 : ∀ M, e_gf 196 [77] M = some 101 := fun M => p_g 196 77 101 M (by decide +kernel)
  have ls := fun M => (p_len25 M).1
  have lt := fun M => (p_len25 M).2
  have kE : E_V 48 24 [77, 9, 40, y3, y4] M3 = some (0, M5) := by
    rw [E_V_eq]
    show e_tv E_C (E_V 48) e_t48_24 [77, 9, 40, y3, y4] M3 = _
    unfold e_t48_24
    simp [e_tv, e_ev, e_sv, e_b1, e_b2, x_o1, x_o2, fs, ft, ls, lt, a3, b3, a4, b4, k4, k5]
  refine ⟨M5, ?_, p_C_tr hd (p_C_tr hd c3 c4) c5⟩
  rw [r_ent (show e_rok 48 [77, 9] = true by decide +kernel)]
  show e_tv E_C (E_V 48) e_t48_0 [77, 9, 0, 0, 0] M = _
  unfold e_t48_0
  simp [e_tv, e_ev, e_sv, e_b1, e_b2, x_o1, x_o2, a0, b0, a1, b1, k1, k2, k3', kE]

theorem p_48r_step {i : Nat} (h : i < 40) {x3 x4 : Int} {D : AW} {M0 M : EM} (hC : p_C 68 0 (p_DL i ++ D) M0 M) : ∃ y3 y4 M1, E_V 48 24 [9, 77, (i : Int), x3, x4] M = E_V 48 24 [9, 77, ((i + 1 : Nat) : Int), y3, y4] M1 ∧ p_C 68 0 (p_DL (i + 1) ++ D) M0 M1 := by
  have hd : p_dir 68 0 := by unfold p_dir; decide
  obtain ⟨M1, k, c⟩ := p_80 (id := 37 + i) (s := 105 + i) (t := 37 + i) hd ⟨by omega, by omega⟩ (by omega) (by omega) hC
  have fs : ∀ M, e_gf 194 [77] M = some 93 := fun M => p_g 194 77 93 M (by decide +kernel)
  have ft : ∀ M, e_gf 194 [9] M = some 25 := fun M => p_g 194 9 25 M (by decide +kernel)
  have ls := fun M => (p_len25 M).2
  have lt := fun M => (p_len25 M).1
  have rs := fun M => (p_rd25 h M).2
  have rt := fun M => (p_rd25 h M).1
  refine ⟨(((37 + i : Nat)) : Int), (((105 + i : Nat)) : Int), M1, ?_, c⟩
  generalize hb : ((37 + i : Nat) : Int) = bt at k rt ⊢
  generalize hc : ((105 + i : Nat) : Int) = bs at k rs ⊢
  generalize hi1 : ((i + 1 : Nat) : Int) = i1
  generalize hi0 : (i : Int) = i0 at rs rt ⊢
  have nb : ¬ (bt = -1) := by omega
  have nc : ¬ (bs = -1) := by omega
  have w : e_w (i0 + 1) = i1 := (a_w_id (by omega) (by omega)).trans (by omega)
  have q : i0 < 40 := by omega
  have q_n : ¬ (40 ≤ i0) := by omega
  have e72 : ∀ M, E_V 48 72 [9, 77, i0, bt, bs] M = E_V 48 24 [9, 77, i1, bt, bs] M := by
    intro M
    rw [E_V_eq]
    show e_tv E_C (E_V 48) e_t48_72 [9, 77, i0, bt, bs] M = _
    unfold e_t48_72
    simp [e_tv, e_ev, e_sv, e_b1, e_b2, x_o1, x_o2, w]
  rw [E_V_eq]
  show e_tv E_C (E_V 48) e_t48_24 [9, 77, i0, x3, x4] M = _
  unfold e_t48_24
  simp [e_tv, e_ev, e_sv, e_b1, e_b2, x_o1, x_o2, fs, ft, ls, lt, rs, rt, nb, nc, q, q_n, k, e72]
theorem p_48r_loop {D : AW} {M0 : EM} : ∀ (m i : Nat) (x3 x4 : Int) (M : EM), i + m = 40 → p_C 68 0 (p_DL i ++ D) M0 M → ∃ y3 y4 M1, E_V 48 24 [9, 77, (i : Int), x3, x4] M = E_V 48 24 [9, 77, 40, y3, y4] M1 ∧ p_C 68 0 (p_DL 40 ++ D) M0 M1 := by
  intro m
  induction m with
  | zero =>
    intro i x3 x4 M hm hC
    have e : i = 40 := by omega
    subst e
    exact ⟨x3, x4, M, rfl, hC⟩
  | succ m ih =>
    intro i x3 x4 M hm hC
    obtain ⟨y3, y4, M1, k, c⟩ := p_48r_step (by omega) (x3 := x3) (x4 := x4) hC
    obtain ⟨z3, z4, M2, k2, c2⟩ := ih (i + 1) y3 y4 M1 (by omega) c
    exact ⟨z3, z4, M2, k.trans k2, c2⟩
theorem p_48r (M : EM) : ∃ M1, E_C 48 [9, 77] M = some (0, M1) ∧ p_C 68 0 p_D48 M M1 := by
  have hd : p_dir 68 0 := by unfold p_dir; decide
  obtain ⟨M1, k1, c1⟩ := p_51r M
  obtain ⟨M2, k2, c2⟩ := p_34r M1
  obtain ⟨y3, y4, M3, k3, c3⟩ := p_48r_loop (D := p_D34 ++ p_D51) 40 0 0 0 M2 rfl (show p_C 68 0 (p_D34 ++ p_D51) M M2 from p_C_tr hd c1 c2)
  obtain ⟨M4, k4, c4⟩ := p_72r M3
  obtain ⟨M5, k5, c5⟩ := p_93r M4
  have k3' : E_V 48 24 [9, 77, 0, 0, 0] M2 = E_V 48 24 [9, 77, 40, y3, y4] M3 := k3
  have fs : ∀ M, e_gf 194 [77] M = some 93 := fun M => p_g 194 77 93 M (by decide +kernel)
  have ft : ∀ M, e_gf 194 [9] M = some 25 := fun M => p_g 194 9 25 M (by decide +kernel)
  have a0 : ∀ M, e_gf 192 [77] M = some 78 := fun M => p_g 192 77 78 M (by decide +kernel)
  have b0 : ∀ M, e_gf 192 [9] M = some 10 := fun M => p_g 192 9 10 M (by decide +kernel)
  have a1 : ∀ M, e_gf 193 [77] M = some 86 := fun M => p_g 193 77 86 M (by decide +kernel)
  have b1 : ∀ M, e_gf 193 [9] M = some 18 := fun M => p_g 193 9 18 M (by decide +kernel)
  have a3 : ∀ M, e_gf 195 [77] M = some 94 := fun M => p_g 195 77 94 M (by decide +kernel)
  have b3 : ∀ M, e_gf 195 [9] M = some 26 := fun M => p_g 195 9 26 M (by decide +kernel)
  have a4 : ∀ M, e_gf 196 [77] M = some 101 := fun M => p_g 196 77 101 M (by decide +kernel)
  have b4 : ∀ M, e_gf 196 [9] M = some 33 := fun M => p_g 196 9 33 M (by decide +kernel)
  have ls := fun M => (p_len25 M).2
  have lt := fun M => (p_len25 M).1
  have kE : E_V 48 24 [9, 77, 40, y3, y4] M3 = some (0, M5) := by
    rw [E_V_eq]
    show e_tv E_C (E_V 48) e_t48_24 [9, 77, 40, y3, y4] M3 = _
    unfold e_t48_24
    simp [e_tv, e_ev, e_sv, e_b1, e_b2, x_o1, x_o2, fs, ft, ls, lt, a3, b3, a4, b4, k4, k5]
  refine ⟨M5, ?_, p_C_tr hd (p_C_tr hd c3 c4) c5⟩
  rw [r_ent (show e_rok 48 [9, 77] = true by decide +kernel)]
  show e_tv E_C (E_V 48) e_t48_0 [9, 77, 0, 0, 0] M = _
  unfold e_t48_0
  simp [e_tv, e_ev, e_sv, e_b1, e_b2, x_o1, x_o2, a0, b0, a1, b1, k1, k2, k3', kE]

