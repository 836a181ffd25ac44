theorem r_n192 {M : EM} {i v : Int} {k : Nat} : (e_up M 193 i.toNat v) 192 k = M 192 k := r_n193 (by decide)
theorem r_mayCome {q p ks : Int} {M : EM} (hq : 0 ≤ q) (hp : p ≤ 40) : ∃ r, E_C 185 [192, q, p, ks] M = some (r, M) ∧ (r = 0 ∨ r = 1) ∧ (r = 1 → q < p ∧ e_bit (fun x y => x &&& y) (e_bit (fun x y => x >>> (y &&& 31)) ks (r_G M (28 * q))) 1 = 1) := by
  rcases x_lt q p with ⟨c0, c0_n⟩ | ⟨c0, c0_n⟩
  · have kk : E_C 170 [192, q] M = some (r_G M (28 * q), M) := r_kind ⟨hq, by omega⟩
    have w1 : e_w (28 * q) = 28 * q := a_w_id (by omega) (by omega)
    have w2 : e_w (28 * q + 1) = 28 * q + 1 := a_w_id (by omega) (by omega)
    have l1 : e_op 60 [193, 28 * q + 1] M = some (r_G M (28 * q + 1)) := r_rd (by omega) (by omega)
    by_cases c1 : e_bit (fun x y => x &&& y) (e_bit (fun x y => x >>> (y &&& 31)) ks (r_G M (28 * q))) 1 = 1
    · by_cases c2 : r_G M (28 * q + 1) = 0
      · refine ⟨1, ?_, Or.inr rfl, fun _ => ⟨c0, c1⟩⟩
        rw [r_ent (show e_rok 185 [192, q, p, ks] = true from decide_eq_true r_ref)]
        show e_tv E_C (E_V 185) e_t185_0 [192, q, p, ks, 0] M = _
        unfold e_t185_0
        simp [e_tv, e_ev, e_sv, e_b1, e_b2, x_o1, x_o2, r_O0, c0, c0_n, kk, c1, w1, w2, l1, c2]
      · refine ⟨0, ?_, Or.inl rfl, fun h => absurd h (by decide)⟩
        rw [r_ent (show e_rok 185 [192, q, p, ks] = true from decide_eq_true r_ref)]
        show e_tv E_C (E_V 185) e_t185_0 [192, q, p, ks, 0] M = _
        unfold e_t185_0
        simp [e_tv, e_ev, e_sv, e_b1, e_b2, x_o1, x_o2, r_O0, c0, c0_n, kk, c1, w1, w2, l1, c2]
    · refine ⟨0, ?_, Or.inl rfl, fun h => absurd h (by decide)⟩
      rw [r_ent (show e_rok 185 [192, q, p, ks] = true from decide_eq_true r_ref)]
      show e_tv E_C (E_V 185) e_t185_0 [192, q, p, ks, 0] M = _
      unfold e_t185_0
      simp [e_tv, e_ev, e_sv, e_b1, e_b2, x_o1, x_o2, r_O0, c0, c0_n, kk, c1]
  · refine ⟨0, ?_, Or.inl rfl, fun h => absurd h (by decide)⟩
    rw [r_ent (show e_rok 185 [192, q, p, ks] = true from decide_eq_true r_ref)]
    show e_tv E_C (E_V 185) e_t185_0 [192, q, p, ks, 0] M = _
    unfold e_t185_0
    simp [e_tv, e_ev, e_sv, e_b1, e_b2, x_o1, x_o2, c0, c0_n]
theorem r_bits {k : Int} (hk : 0 ≤ k ∧ k ≤ 3) : (e_bit (fun x y => x &&& y) (e_bit (fun x y => x >>> (y &&& 31)) 1 k) 1 = 1 → k = 0) ∧ (e_bit (fun x y => x &&& y) (e_bit (fun x y => x >>> (y &&& 31)) 3 k) 1 = 1 → k = 0 ∨ k = 1) ∧ (e_bit (fun x y => x &&& y) (e_bit (fun x y => x >>> (y &&& 31)) 7 k) 1 = 1 → k = 0 ∨ k = 1 ∨ k = 2) := by
  have h : k = 0 ∨ k = 1 ∨ k = 2 ∨ k = 3 := by omega
  rcases h with rfl | rfl | rfl | rfl <;> decide +kernel
/-- of a PART that is there by its KIND -/
theorem r_W_kind {g : Int → Int} (hW : r_W g) {q : Int} (hq : 0 ≤ q ∧ q < g 1198) : (0 ≤ g (28 * q) ∧ g (28 * q) ≤ 3) ∧ (g (28 * q) = 0 → r_cl g (g 1198) q) ∧ (g (28 * q) = 1 → r_rw g (g 1198) q) ∧ (g (28 * q) = 2 → r_fd g (g 1198) q) := by
  rcases hW.2.2.1 q hq.1 hq.2 with h | h | h | h <;> have hk := h.2.2.1
  · exact ⟨by omega, fun _ => h, fun e => by omega, fun e => by omega⟩
  · exact ⟨by omega, fun e => by omega, fun _ => h, fun e => by omega⟩
  · exact ⟨by omega, fun e => by omega, fun e => by omega, fun _ => h⟩
  · exact ⟨by omega, fun e => by omega, fun e => by omega, fun e => by omega⟩
/-! a CURVE -/
theorem r_mc_184 {p n x5 : Int} {M : EM} (hp : 0 ≤ p ∧ p < 40) (hn : n ≤ 6) : ∀ (m : Nat) (x3 x4 : Int), (n - x4).toNat ≤ m → 1 ≤ x4 → ∃ r, E_V 184 184 [192, p, n, x3, x4, x5] M = some (r, M) := by
  have hend : ∀ x3 x4, ¬ (x4 < n) → ∃ r, E_V 184 184 [192, p, n, x3, x4, x5] M = some (r, M) := by
    intro x3 x4 q
    refine ⟨x3, ?_⟩
    rw [E_V_eq]
    show e_tv E_C (E_V 184) e_t184_184 [192, p, n, x3, x4, x5] M = _
    unfold e_t184_184
    simp [e_tv, e_ev, e_sv, e_b1, e_b2, x_o1, x_o2, q]
  intro m
  induction m with
  | zero => intro x3 x4 hm h0; exact hend x3 x4 (by omega)
  | succ m ih =>
    intro x3 x4 hm h0
    rcases x_lt x4 n with ⟨q, q_n⟩ | ⟨q, q_n⟩
    · have w1 : e_w (28 * p) = 28 * p := a_w_id (by omega) (by omega)
      have w2 : e_w (28 * p + 9) = 28 * p + 9 := a_w_id (by omega) (by omega)
      have w3 : e_w (28 * p + 9 + x4) = 28 * p + 9 + x4 := a_w_id (by omega) (by omega)
      have w4 : e_w (28 * p + 8) = 28 * p + 8 := a_w_id (by omega) (by omega)
      have w5 : e_w (28 * p + 8 + x4) = 28 * p + 8 + x4 := a_w_id (by omega) (by omega)
      have w6 : e_w (x4 - 1) = x4 - 1 := a_w_id (by omega) (by omega)
      have w7 : e_w (x4 + 1) = x4 + 1 := a_w_id (by omega) (by omega)
      have k1 := r_of (M := M) (p := p) (k := x4) hp ⟨by omega, by omega⟩
      have k2 := r_of (M := M) (p := p) (k := x4 - 1) hp ⟨by omega, by omega⟩
      have l1 : e_op 60 [193, 28 * p + 9 + x4] M = some (r_G M (28 * p + 9 + x4)) := r_rd (by omega) (by omega)
      have l2 : e_op 60 [193, 28 * p + 8 + x4] M = some (r_G M (28 * p + 8 + x4)) := r_rd (by omega) (by omega)
      obtain ⟨r1, j1⟩ := ih 1 (x4 + 1) (by omega) (by omega)
      obtain ⟨r0, j0⟩ := ih 0 (x4 + 1) (by omega) (by omega)
      by_cases c0 : x3 = 0
      · refine ⟨r0, ?_⟩
        rw [E_V_eq]
        show e_tv E_C (E_V 184) e_t184_184 [192, p, n, x3, x4, x5] M = _
        unfold e_t184_184
        simp [e_tv, e_ev, e_sv, e_b1, e_b2, x_o1, x_o2, q, q_n, c0, w7, j0]
      · rcases x_lt (M 193 (28 * p + 3 + (x4 - 1)).toNat) (M 193 (28 * p + 3 + x4).toNat) with ⟨c1, c1_n⟩ | ⟨c1, c1_n⟩
        · rcases x_lt (r_G M (28 * p + 9 + x4)) (r_G M (28 * p + 8 + x4)) with ⟨c2, c2_n⟩ | ⟨c2, c2_n⟩
          · refine ⟨r1, ?_⟩
            rw [E_V_eq]
            show e_tv E_C (E_V 184) e_t184_184 [192, p, n, x3, x4, x5] M = _
            unfold e_t184_184
            simp [e_tv, e_ev, e_sv, e_b1, e_b2, x_o1, x_o2, r_O0, q, q_n, c0, w1, w2, w3, w4, w5, w6, w7, k1, k2, l1, l2, c1, c1_n, c2, c2_n, j1]
          · refine ⟨r0, ?_⟩
            rw [E_V_eq]
            show e_tv E_C (E_V 184) e_t184_184 [192, p, n, x3, x4, x5] M = _
            unfold e_t184_184
            simp [e_tv, e_ev, e_sv, e_b1, e_b2, x_o1, x_o2, r_O0, q, q_n, c0, w1, w2, w3, w4, w5, w6, w7, k1, k2, l1, l2, c1, c1_n, c2, c2_n, j0]
        · refine ⟨r0, ?_⟩
          rw [E_V_eq]
          show e_tv E_C (E_V 184) e_t184_184 [192, p, n, x3, x4, x5] M = _
          unfold e_t184_184
          simp [e_tv, e_ev, e_sv, e_b1, e_b2, x_o1, x_o2, r_O0, q, q_n, c0, w6, w7, k1, k2, c1, c1_n, j0]
    · exact hend x3 x4 q

