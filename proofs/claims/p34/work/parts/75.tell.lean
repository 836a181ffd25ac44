theorem c_at32 {a i : Int} {M : EM} (hM : a_M M) (ha : 0 < a ∧ a.toNat < e_N ∧ (e_sh a.toNat).1 = 100) (h5 : a.toNat ≠ 5) (ho : a.toNat ≠ e_OUT) : ∃ v, E_C 146 [a, i] M = some (v, M) ∧ -2147483648 ≤ v ∧ v ≤ 2147483647 := by
  refine ⟨_, c_at a i M (Or.inr ha), ?_⟩
  split
  · exact c_M32 hM h5 ho
  · exact ⟨by decide, by decide⟩
theorem c_b3 : e_isO 3 9 := by decide +kernel
theorem c_b1 : e_isO 1 18 := by decide +kernel
theorem c_g (k : Nat) (v : Int) (M : EM) (h : e_fty k = 2 ∧ k / 64 = 0 ∧ e_gr 170 k = v) : e_gf k [170] M = some v := by
  obtain ⟨h1, h2, h3⟩ := h
  have h4 : k % 64 = k := by omega
  rw [c_gr (by rw [h2]; exact c_isB) h1, h4]
  exact congrArg some h3
theorem c_add_loop {x y : Int} : ∀ (m : Nat) (i : Int) (M : EM), a_M M → (4 - i).toNat ≤ m → 0 ≤ i → i ≤ 4 → ∃ M', E_V 5 51 [170, x, y, i] M = some (0, M') ∧ a_M M' ∧ a_fr a_w5 M M' ∧ M' 170 0 = e_w (M 170 0 + 1) := by
  have g12 : ∀ M, e_gf 12 [170] M = some 175 := fun M => c_g 12 175 M (by decide +kernel)
  have g3 : ∀ M, e_gf 3 [170] M = some 9 := fun M => c_g 3 9 M (by decide +kernel)
  have g0 : ∀ M, e_gf 0 [170] M = some (M 170 0) := fun M => c_gf c_isB (by decide +kernel)
  have p0 : ∀ v M, e_pf 0 [170, v] M = some (e_up M 170 0 v) := fun v M => c_pf c_isB (by decide +kernel)
  have g193 : ∀ M, e_gf 193 [9] M = some 18 := fun M => (c_gr c_b3 (by decide +kernel)).trans (congrArg some (by decide +kernel))
  have g66 : ∀ M, e_gf 66 [18] M = some 21 := fun M => (c_gr c_b1 (by decide +kernel)).trans (congrArg some (by decide +kernel))
  have hend : ∀ (i : Int) (M : EM), a_M M → ¬ (i < 4) → ∃ M', E_V 5 51 [170, x, y, i] M = some (0, M') ∧ a_M M' ∧ a_fr a_w5 M M' ∧ M' 170 0 = e_w (M 170 0 + 1) := by
    intro i M hM hlt
    obtain ⟨a1, b1⟩ := c_bup (W := a_w5) (M := M) (k := 0) (v := e_w (M 170 0 + 1)) (by decide +kernel) (a_w _) hM
    refine ⟨_, ?_, a1, b1, c_up_s⟩
    rw [E_V_eq]
    show e_tv E_C (E_V 5) e_t5_51 [170, x, y, i] M = _
    unfold e_t5_51
    simp [e_tv, e_ev, e_sv, e_op, e_b2, g0, p0, hlt]
  intro m
  induction m with
  | zero => intro i M hM hm h0 h4; exact hend i M hM (by omega)
  | succ m ih =>
    intro i M hM hm h0 h4
    by_cases hlt : i < 4
    · obtain ⟨v, v1, v2⟩ := c_at32 (i := e_w (e_w (x * 4) + i)) hM (a := 21) (by decide +kernel) (by decide) (by decide +kernel)
      obtain ⟨r, M1, l1, l2, l3, l4⟩ := c_lay (a := 175) (i := e_w (e_w (M 170 0 * 4) + i)) (by decide) hM (a_w _) v2
      obtain ⟨M2, k1, k2, k3, k4⟩ := ih (i + 1) M1 l2 (by omega) (by omega) (by omega)
      refine ⟨M2, ?_, k2, a_fr_tr l3 k3, by rw [k4, l4]⟩
      have hw : e_w (i + 1) = i + 1 := a_w_id (by omega) (by omega)
      rw [E_V_eq]
      show e_tv E_C (E_V 5) e_t5_51 [170, x, y, i] M = _
      unfold e_t5_51
      simp [e_tv, e_ev, e_sv, e_op, e_b2, g0, g3, g12, g193, g66, v1, l1, hlt, hw, k1]
    · exact hend i M hM hlt
theorem c_addCell {x y : Int} {M : EM} (hM : a_M M) (hx : -2147483648 ≤ x ∧ x ≤ 2147483647) (hy : -2147483648 ≤ y ∧ y ≤ 2147483647) : ∃ M', E_C 5 [170, x, y] M = some (0, M') ∧ a_M M' ∧ a_fr a_w5 M M' ∧ M' 170 0 = e_w (M 170 0 + 1) := by
  have h1 : E_C 5 [170, x, y] M = e_tv E_C (E_V 5) e_t5_0 [170, x, y, 0] M := by
    unfold E_C
    rw [if_pos (show e_rok 5 [170, x, y] = true from decide_eq_true c_isB), E_V_eq]
    rfl
  have g0 : ∀ M, e_gf 0 [170] M = some (M 170 0) := fun M => c_gf c_isB (by decide +kernel)
  have g3 : ∀ M, e_gf 3 [170] M = some 9 := fun M => c_g 3 9 M (by decide +kernel)
  have g10 : ∀ M, e_gf 10 [170] M = some 173 := fun M => c_g 10 173 M (by decide +kernel)
  have g11 : ∀ M, e_gf 11 [170] M = some 174 := fun M => c_g 11 174 M (by decide +kernel)
  have g13 : ∀ M, e_gf 13 [170] M = some 176 := fun M => c_g 13 176 M (by decide +kernel)
  have g193 : ∀ M, e_gf 193 [9] M = some 18 := fun M => (c_gr c_b3 (by decide +kernel)).trans (congrArg some (by decide +kernel))
  have g67 : ∀ M, e_gf 67 [18] M = some 22 := fun M => (c_gr c_b1 (by decide +kernel)).trans (congrArg some (by decide +kernel))
  have hb : ∀ {M}, a_M M → -2147483648 ≤ M 170 0 ∧ M 170 0 ≤ 2147483647 := fun h => c_M32 h (by decide) (by decide +kernel)
  obtain ⟨r1, M1, l1, l2, l3, l4⟩ := c_lay (a := 174) (i := M 170 0) (v := x) (by decide) hM (hb hM) hx
  obtain ⟨r2, M2, m1, m2, m3, m4⟩ := c_lay (a := 173) (i := M1 170 0) (v := y) (by decide) l2 (hb l2) hy
  obtain ⟨v, v1, v2⟩ := c_at32 (i := x) m2 (a := 22) (by decide +kernel) (by decide) (by decide +kernel)
  obtain ⟨r3, M3, n1, n2, n3, n4⟩ := c_lay (a := 176) (i := M2 170 0) (v := v) (by decide) m2 (hb m2) v2
  obtain ⟨M4, k1, k2, k3, k4⟩ := c_add_loop (x := x) (y := y) 4 0 M3 n2 (by decide) (by decide) (by decide)
  refine ⟨M4, ?_, k2, a_fr_tr l3 (a_fr_tr m3 (a_fr_tr n3 k3)), by rw [k4, n4, m4, l4]⟩
  rw [h1]
  unfold e_t5_0
  simp [e_tv, e_ev, e_sv, g0, g3, g10, g11, g13, g193, g67, l1, m1, v1, n1, k1]
