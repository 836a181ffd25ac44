/-! the reference as it stands between calls: SHARES, WARMS, DIODES as told -/
/-- no CAUSE is off, no FAULT is tried -/
def rx_K (M : EM) : Prop := M 192 22 = 0 ∧ M 192 23 = -1 ∧ M 192 24 = -1
/-- what is told of CELLS, by the reference alone -/
def hd_cs (g : Int → Int) : Prop := ∀ q, 0 ≤ q → q < g 1198 → g (28 * q) = 0 → (∀ a : Nat, a < 4 → 0 ≤ g (28 * q + 15 + (a : Int)) ∧ g (28 * q + 15 + (a : Int)) ≤ 100) ∧ (g (28 * q + 19) = 0 ∨ g (28 * q + 19) = 1)
theorem hd_cs_of {M : EM} {g : Int → Int} (hC : h_C M 0 g) : hd_cs g := by
  intro q h0 h1 hk
  obtain ⟨n, rfl⟩ : ∃ n : Nat, q = n := ⟨q.toNat, by omega⟩
  obtain ⟨c1, c2, -⟩ := hC n h1 hk
  exact ⟨fun a ha => (c1 a ha).2, c2.2⟩
theorem hd_cvs_of {M : EM} {g : Int → Int} (hD : hd_D M 0 g) : hd_cvs g := by
  intro q h0 h1 hk
  obtain ⟨n, rfl⟩ : ∃ n : Nat, q = n := ⟨q.toNat, by omega⟩
  exact ((hD n h1).1 hk).1
theorem e_b0 (k : Int) (hk : k = 1 ∨ k = 2 ∨ k = 4 ∨ k = 8) : e_bit (fun x y => x &&& y) 0 k = 0 := by
  rcases hk with rfl | rfl | rfl | rfl <;> decide +kernel
section RXP
variable {M : EM}
theorem rx_sh0 {q : Int} (hK : rx_K M) (h20 : M 192 20 = -1) (hq : 0 ≤ q ∧ q < 40) (ha : ∀ a : Nat, a < 4 → 0 ≤ r_G M (28 * q + 15 + (a : Int)) ∧ r_G M (28 * q + 15 + (a : Int)) ≤ 100) (hd : r_G M (28 * q + 19) = 0 ∨ r_G M (28 * q + 19) = 1) : E_C 192 [192, q] M = some (hd_SH (r_G M) q, M) ∧ 0 ≤ hd_SH (r_G M) q ∧ hd_SH (r_G M) q ≤ 100 := by
  obtain ⟨k22, k23, k24⟩ := hK
  have a0 := ha 0 (by decide)
  have a1 := ha 1 (by decide)
  have a2 := ha 2 (by decide)
  rw [show 28 * q + 15 + ((0 : Nat) : Int) = 28 * q + 15 by omega] at a0
  rw [show 28 * q + 15 + ((1 : Nat) : Int) = 28 * q + 16 by omega] at a1
  rw [show 28 * q + 15 + ((2 : Nat) : Int) = 28 * q + 17 by omega] at a2
  obtain ⟨z1, z2⟩ := bx_shv a0 a1 a2
  have l0 : e_op 60 [193, 28 * q + 15] M = some (r_G M (28 * q + 15)) := r_rd (by omega) (by omega)
  have l1 : e_op 60 [193, 28 * q + 15 + 4] M = some (r_G M (28 * q + 19)) := (r_rd (by omega) (by omega)).trans (by rw [show 28 * q + 15 + 4 = 28 * q + 19 by omega])
  have l2 : e_op 60 [193, 28 * q + 15 + 1] M = some (r_G M (28 * q + 16)) := (r_rd (by omega) (by omega)).trans (by rw [show 28 * q + 15 + 1 = 28 * q + 16 by omega])
  have l3 : e_op 60 [193, 28 * q + 15 + 2] M = some (r_G M (28 * q + 17)) := (r_rd (by omega) (by omega)).trans (by rw [show 28 * q + 15 + 2 = 28 * q + 17 by omega])
  have b1 := e_b0 1 (by decide)
  have b2 := e_b0 2 (by decide)
  have b4 := e_b0 4 (by decide)
  have q1 : ¬ (-1 = q) := by omega
  have w1 : e_w (28 * q) = 28 * q := a_w_id (by omega) (by omega)
  have w2 : e_w (28 * q + 15) = 28 * q + 15 := a_w_id (by omega) (by omega)
  have w3 : e_w (28 * q + 15 + 4) = 28 * q + 15 + 4 := a_w_id (by omega) (by omega)
  have w4 : e_w (28 * q + 15 + 1) = 28 * q + 15 + 1 := a_w_id (by omega) (by omega)
  have w5 : e_w (28 * q + 15 + 2) = 28 * q + 15 + 2 := a_w_id (by omega) (by omega)
  unfold hd_SH
  rcases hd with hd | hd
  · rw [hd] at l1
    rw [if_pos hd, ← z1]
    refine ⟨?_, by rw [z1]; exact z2⟩
    rw [r_ent (show e_rok 192 [192, q] = true from decide_eq_true r_ref)]
    show e_tv E_C (E_V 192) e_t192_0 [192, q, 0, 0, 0, 0] M = _
    unfold e_t192_0
    simp [e_tv, e_ev, e_sv, e_b1, e_b2, x_o1, x_o2, r_O0, r_F20, r_F22, r_F23, k22, k23, h20, q1, w1, w2, w3, w4, w5, l0, l1, l2, l3, b1, b2, b4]
  · rw [hd] at l1
    rw [if_neg (by omega)]
    refine ⟨?_, by decide, by decide⟩
    rw [r_ent (show e_rok 192 [192, q] = true from decide_eq_true r_ref)]
    show e_tv E_C (E_V 192) e_t192_0 [192, q, 0, 0, 0, 0] M = _
    unfold e_t192_0
    simp [e_tv, e_ev, e_sv, e_b1, e_b2, x_o1, x_o2, r_O0, w1, w2, w3, l1]
theorem rx_pv0 {q w : Int} {i : Nat} (hK : rx_K M) (hq : 0 ≤ q ∧ q < 40) (hi : i < 6) (hp : 0 ≤ r_G M (28 * q + 3 + (i : Int)) ∧ r_G M (28 * q + 3 + (i : Int)) ≤ 60) (hw : r_G M (28 * q + 18) = w) (hw1 : 0 ≤ w ∧ w ≤ 100) : E_C 193 [192, q, (i : Int)] M = some (cu_pv (r_G M) w q i, M) := by
  obtain ⟨k22, k23, k24⟩ := hK
  obtain ⟨z, hz⟩ : ∃ z, r_G M (28 * q + 3 + (i : Int)) = z := ⟨_, rfl⟩
  rw [hz] at hp
  have v := bx_pve (g := r_G M) (q := q) (i := i) hz.symm hp hw1
  have k : E_C 172 [192, q, (i : Int)] M = some (z, M) := by rw [← hz]; exact r_of hq ⟨by omega, by omega⟩
  have l1 : e_op 60 [193, 28 * q + 15 + 3] M = some w := (r_rd (by omega) (by omega)).trans (by rw [show 28 * q + 15 + 3 = 28 * q + 18 by omega, hw])
  obtain ⟨ii, hii⟩ : ∃ ii : Int, (i : Int) = ii := ⟨_, rfl⟩
  rw [hii] at k
  rw [hii, ← v]
  clear hz v hii
  have b8 := e_b0 8 (by decide)
  have w1 : e_w (28 * q) = 28 * q := a_w_id (by omega) (by omega)
  have w2 : e_w (28 * q + 15) = 28 * q + 15 := a_w_id (by omega) (by omega)
  have w3 : e_w (28 * q + 15 + 3) = 28 * q + 15 + 3 := a_w_id (by omega) (by omega)
  rw [r_ent (show e_rok 193 [192, q, ii] = true from decide_eq_true r_ref)]
  show e_tv E_C (E_V 193) e_t193_0 [192, q, ii, 0] M = _
  unfold e_t193_0
  simp [e_tv, e_ev, e_sv, e_b1, e_b2, x_o1, x_o2, r_O0, r_F22, k22, w1, w2, w3, l1, b8, k]
theorem rx_di0 {q : Int} {y : Nat} (hK : rx_K M) (hq : 0 ≤ q ∧ q < 40) (hy : y < 8) : E_C 200 [192, q, (y : Int)] M = some (hd_DI (r_G M) q y, M) := by
  obtain ⟨k22, k23, k24⟩ := hK
  obtain ⟨yy, hyy⟩ : ∃ yy : Int, (y : Int) = yy := ⟨_, rfl⟩
  unfold hd_DI
  rw [hyy]
  have y0 : 0 ≤ yy ∧ yy < 8 := by omega
  have l1 : e_op 60 [193, 28 * q + 20 + yy] M = some (r_G M (28 * q + 20 + yy)) := r_rd (by omega) (by omega)
  have c2 : ¬ (-1 = 8 * q + yy) := by omega
  have w1 : e_w (28 * q) = 28 * q := a_w_id (by omega) (by omega)
  have w2 : e_w (28 * q + 20) = 28 * q + 20 := a_w_id (by omega) (by omega)
  have w3 : e_w (28 * q + 20 + yy) = 28 * q + 20 + yy := a_w_id (by omega) (by omega)
  have w4 : e_w (8 * q) = 8 * q := a_w_id (by omega) (by omega)
  have w5 : e_w (8 * q + yy) = 8 * q + yy := a_w_id (by omega) (by omega)
  by_cases c1 : r_G M (28 * q + 20 + yy) = 1
  · rw [if_pos c1]
    rw [c1] at l1
    rw [r_ent (show e_rok 200 [192, q, yy] = true from decide_eq_true r_ref)]
    show e_tv E_C (E_V 200) e_t200_0 [192, q, yy] M = _
    unfold e_t200_0
    simp [e_tv, e_ev, e_sv, e_b1, e_b2, x_o1, x_o2, r_O0, r_F24, k24, w1, w2, w3, w4, w5, l1, c2]
  · rw [if_neg c1]
    rw [r_ent (show e_rok 200 [192, q, yy] = true from decide_eq_true r_ref)]
    show e_tv E_C (E_V 200) e_t200_0 [192, q, yy] M = _
    unfold e_t200_0
    simp [e_tv, e_ev, e_sv, e_b1, e_b2, x_o1, x_o2, r_O0, w1, w2, w3, l1, c1]
theorem rx_md0 (hK : rx_K M) (h20 : M 192 20 = -1) (hcs : hd_cs (r_G M)) : rx_md M (hd_SH (r_G M)) (hd_WM (r_G M)) (hd_DI (r_G M)) := by
  refine ⟨fun b q hb hb1 hq => ?_, fun q y h0 h1 hy => ⟨rx_di0 hK ⟨h0, h1⟩ hy, ?_⟩⟩
  · have h40 : 0 ≤ q ∧ q < 40 := ⟨hq.1, by have := hq.2.1; omega⟩
    obtain ⟨c1, c2⟩ := hcs q hq.1 (by have := hq.2.1; omega) hq.2.2.1
    have a3 := c1 3 (by decide)
    rw [show 28 * q + 15 + ((3 : Nat) : Int) = 28 * q + 18 by omega] at a3
    exact ⟨rx_sh0 hK h20 h40 c1 c2, a3, fun i hi p0 p1 => rx_pv0 hK h40 hi ⟨p0, p1⟩ rfl a3⟩
  · unfold hd_DI
    by_cases c : r_G M (28 * q + 20 + (y : Int)) = 1
    · rw [if_pos c]; exact Or.inr rfl
    · rw [if_neg c]; exact Or.inl rfl
theorem rx_MD0 {g : Int → Int} (hG : r_G M = g) (hK : rx_K M) (h20 : M 192 20 = -1) (hcs : hd_cs g) : rx_MD M (hd_SH g) (hd_WM g) (hd_DI g) := by
  intro M' h
  have e : r_G M' = g := (rx_sm_G h).trans hG
  have e2 : ∀ k, M' 192 k = M 192 k := fun k => h _ _ (by decide) (by decide)
  have k := rx_md0 (M := M') (by unfold rx_K; rw [e2, e2, e2]; exact hK) (by rw [e2]; exact h20) (by rw [e]; exact hcs)
  rw [e] at k
  exact k
end RXP
