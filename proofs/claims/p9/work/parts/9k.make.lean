/-! a STATEMENT made by the reference: part p is new, g0 was the row ahead of it -/
def r_mk (p kd : Int) (g0 : Int → Int) (M0 M : EM) : Prop := a_M M ∧ (∀ id k, id ≠ 193 → ¬ (id = 192 ∧ (k = 15 ∨ k = 18)) → M id k = M0 id k) ∧ (∀ i, 0 ≤ i → i < 28 * p → i % 28 ≠ 1 → r_G M i = g0 i) ∧ (∀ i, 28 * p + 28 ≤ i → r_G M i = g0 i) ∧ r_G M (28 * p) = kd ∧ (kd = 0 → r_G M (28 * p + 20) = 0) ∧ (kd = 3 → r_G M (28 * p + 4) = 0) ∧ r_N99 M
section RMK
variable {p kd : Int} {g0 : Int → Int} {M0 M M' : EM}
theorem r_mk_w {i v : Int} (h : r_mk p kd g0 M0 M) (hp : 0 ≤ p) (hi : 28 * p < i ∧ i < 28 * p + 28) (h0 : kd = 0 → i ≠ 28 * p + 20) (h3 : kd = 3 → i ≠ 28 * p + 4) (hv : -2147483648 ≤ v ∧ v ≤ 2147483647) : r_mk p kd g0 M0 (e_up M 193 i.toNat v) := by
  obtain ⟨a1, a2, a3, a4, a5, a6, a7, a8⟩ := h
  refine ⟨r_upw hv a1, fun id k h1 h2 => (r_n193 h1).trans (a2 id k h1 h2), fun j j0 j1 j2 => (r_G_n (by omega) (by omega)).trans (a3 j j0 j1 j2), fun j hj => (r_G_n (by omega) (by omega)).trans (a4 j hj), (r_G_n (by omega) (by omega)).trans a5, fun hk => (r_G_n (by omega) (fun e => h0 hk e.symm)).trans (a6 hk), fun hk => (r_G_n (by omega) (fun e => h3 hk e.symm)).trans (a7 hk), ?_⟩
  unfold r_N99
  rw [r_n193 (by decide)]
  exact a8
theorem r_mk_o {q v : Int} (h : r_mk p kd g0 M0 M) (hq : 0 ≤ q ∧ q < p) (hv : -2147483648 ≤ v ∧ v ≤ 2147483647) : r_mk p kd g0 M0 (e_up M 193 (28 * q + 1).toNat v) := by
  obtain ⟨a1, a2, a3, a4, a5, a6, a7, a8⟩ := h
  refine ⟨r_upw hv a1, fun id k h1 h2 => (r_n193 h1).trans (a2 id k h1 h2), fun j j0 j1 j2 => (r_G_n (by omega) (by omega)).trans (a3 j j0 j1 j2), fun j hj => (r_G_n (by omega) (by omega)).trans (a4 j hj), (r_G_n (by omega) (by omega)).trans a5, fun hk => (r_G_n (by omega) (by omega)).trans (a6 hk), fun hk => (r_G_n (by omega) (by omega)).trans (a7 hk), ?_⟩
  unfold r_N99
  rw [r_n193 (by decide)]
  exact a8
theorem r_mk_t (h : r_mk p kd g0 M0 M) (t : r_tt M M') : r_mk p kd g0 M0 M' := by
  obtain ⟨a1, a2, a3, a4, a5, a6, a7, a8⟩ := h
  obtain ⟨b1, b2, b3, b4, b5⟩ := t
  have eG : r_G M' = r_G M := funext fun i => b2 _ _ (by omega)
  exact ⟨b1, fun id k h1 h2 => (b2 id k h2).trans (a2 id k h1 h2), by rw [eG]; exact a3, by rw [eG]; exact a4, by rw [eG]; exact a5, by rw [eG]; exact a6, by rw [eG]; exact a7, b5 a8⟩
theorem r_mk_p {v : Int} (h : r_mk p kd g0 M0 M) (hv : -2147483648 ≤ v ∧ v ≤ 2147483647) : r_mk p kd g0 M0 (e_up M 192 15 v) := by
  obtain ⟨a1, a2, a3, a4, a5, a6, a7, a8⟩ := h
  have eG : r_G (e_up M 192 15 v) = r_G M := r_up_Gne (by decide)
  refine ⟨r_up (by decide) (by decide +kernel) (by decide +kernel) hv a1, fun id k h1 h2 => (c_up_n (fun hc => h2 ⟨hc.1, Or.inl hc.2⟩)).trans (a2 id k h1 h2), by rw [eG]; exact a3, by rw [eG]; exact a4, by rw [eG]; exact a5, by rw [eG]; exact a6, by rw [eG]; exact a7, ?_⟩
  unfold r_N99
  rw [r_ff (by decide)]
  exact a8
/-- where the TEXT lies -/
def r_bl (M0 : EM) : Prop := 0 ≤ M0 192 16 ∧ M0 192 16 ≤ 840 ∧ M0 192 17 ≤ 120
theorem r_mk_ty (h : r_mk p kd g0 M0 M) (hb : r_bl M0) (hq : 0 ≤ M 192 15 ∧ M 192 15 ≤ 1000) : r_ty M := by
  obtain ⟨a1, a2, -⟩ := h
  have e6 := a2 192 16 (by decide) (by omega)
  have e7 := a2 192 17 (by decide) (by omega)
  obtain ⟨b1, b2, b3⟩ := hb
  exact ⟨a1, hq.1, hq.2, by omega, by omega, by omega⟩
theorem r_mk_17 (h : r_mk p kd g0 M0 M) : M 192 17 = M0 192 17 := h.2.1 192 17 (by decide) (by omega)
theorem r_mk_cl {y : Int} (h : r_mk p kd g0 M0 M) (hy : r_cl g0 p y) : r_cl (r_G M) p y := by
  have a3 := h.2.2.1
  have h0 := hy.1
  have h1 := hy.2.1
  exact r_cl_eq (a3 _ (by omega) (by omega) (by omega)) (a3 _ (by omega) (by omega) (by omega)) (r_lies_eq (fun j j0 j1 => a3 _ (by omega) (by omega) (by omega))) hy
theorem r_mk_cl' {b y : Int} (h : r_mk p kd g0 M0 M) (hb : b ≤ p) (hy : r_cl g0 b y) : r_cl (r_G M) b y := by
  have h1 := r_mk_cl h (r_cl_up hy hb)
  exact ⟨h1.1, hy.2.1, h1.2.2⟩
theorem r_mk_rw' {b y : Int} (h : r_mk p kd g0 M0 M) (hb : b ≤ p) (hy : r_rw g0 b y) : r_rw (r_G M) b y := by
  have a3 := h.2.2.1
  have h0 := hy.1
  have h1 := hy.2.1
  exact r_rw_eq (fun j j0 j1 j2 => a3 _ (by omega) (by omega) (by omega)) (fun z hz => r_mk_cl' h (by omega) hz) hy
theorem r_mk_fd' {b y : Int} (h : r_mk p kd g0 M0 M) (hb : b ≤ p) (hy : r_fd g0 b y) : r_fd (r_G M) b y := by
  have a3 := h.2.2.1
  have h0 := hy.1
  have h1 := hy.2.1
  exact r_fd_eq (fun j j0 j1 j2 => a3 _ (by omega) (by omega) (by omega)) (fun z hz => r_mk_cl' h (by omega) hz) (fun z hz => r_mk_rw' h (by omega) hz) hy
theorem r_mk_bx' {b y : Int} (h : r_mk p kd g0 M0 M) (hb : b ≤ p) (hy : r_bx g0 b y) : r_bx (r_G M) b y := by
  have a3 := h.2.2.1
  have h0 := hy.1
  have h1 := hy.2.1
  exact r_bx_eq (a3 _ (by omega) (by omega) (by omega)) (a3 _ (by omega) (by omega) (by omega)) (a3 _ (by omega) (by omega) (by omega)) (fun h4 => by rw [a3 _ (by omega) (by omega) (by omega)]; exact h4) (fun z hz => r_mk_cl' h (by omega) hz) (fun z hz => r_mk_rw' h (by omega) hz) (fun z hz => r_mk_fd' h (by omega) hz) hy
end RMK
theorem r_n192 {M : EM} {i v : Int} {k : Nat} : (e_up M 193 i.toNat v) 192 k = M 192 k := r_n193 (by decide)
theorem r_mayCome {q p ks : Int} {M : EM} (hq : 0 ≤ q) (hp : p ≤ 40) : ∃ r, E_C 185 [192, q, p, ks] M = some (r, M) ∧ (r = 0 ∨ r = 1) ∧ (r = 1 → q < p ∧ e_bit (fun x y => x &&& y) (e_bit (fun x y => x >>> (y &&& 31)) ks (r_G M (28 * q))) 1 = 1) := by
  rcases x_lt q p with ⟨c0, c0_n⟩ | ⟨c0, c0_n⟩
  · have kk : E_C 170 [192, q] M = some (r_G M (28 * q), M) := r_kind ⟨hq, by omega⟩
    have w1 : e_w (28 * q) = 28 * q := a_w_id (by omega) (by omega)
    have w2 : e_w (28 * q + 1) = 28 * q + 1 := a_w_id (by omega) (by omega)
    have l1 : e_op 60 [193, 28 * q + 1] M = some (r_G M (28 * q + 1)) := r_rd (by omega) (by omega)
    by_cases c1 : e_bit (fun x y => x &&& y) (e_bit (fun x y => x >>> (y &&& 31)) ks (r_G M (28 * q))) 1 = 1
    · by_cases c2 : r_G M (28 * q + 1) = 0
      · refine ⟨1, ?_, Or.inr rfl, fun _ => ⟨c0, c1⟩⟩
        rw [r_ent (show e_rok 185 [192, q, p, ks] = true from decide_eq_true r_ref)]
        show e_tv E_C (E_V 185) e_t185_0 [192, q, p, ks, 0] M = _
        unfold e_t185_0
        simp [e_tv, e_ev, e_sv, e_b1, e_b2, x_o1, x_o2, r_O0, c0, c0_n, kk, c1, w1, w2, l1, c2]
      · refine ⟨0, ?_, Or.inl rfl, fun h => absurd h (by decide)⟩
        rw [r_ent (show e_rok 185 [192, q, p, ks] = true from decide_eq_true r_ref)]
        show e_tv E_C (E_V 185) e_t185_0 [192, q, p, ks, 0] M = _
        unfold e_t185_0
        simp [e_tv, e_ev, e_sv, e_b1, e_b2, x_o1, x_o2, r_O0, c0, c0_n, kk, c1, w1, w2, l1, c2]
    · refine ⟨0, ?_, Or.inl rfl, fun h => absurd h (by decide)⟩
      rw [r_ent (show e_rok 185 [192, q, p, ks] = true from decide_eq_true r_ref)]
      show e_tv E_C (E_V 185) e_t185_0 [192, q, p, ks, 0] M = _
      unfold e_t185_0
      simp [e_tv, e_ev, e_sv, e_b1, e_b2, x_o1, x_o2, r_O0, c0, c0_n, kk, c1]
  · refine ⟨0, ?_, Or.inl rfl, fun h => absurd h (by decide)⟩
    rw [r_ent (show e_rok 185 [192, q, p, ks] = true from decide_eq_true r_ref)]
    show e_tv E_C (E_V 185) e_t185_0 [192, q, p, ks, 0] M = _
    unfold e_t185_0
    simp [e_tv, e_ev, e_sv, e_b1, e_b2, x_o1, x_o2, c0, c0_n]
theorem r_bits {k : Int} (hk : 0 ≤ k ∧ k ≤ 3) : (e_bit (fun x y => x &&& y) (e_bit (fun x y => x >>> (y &&& 31)) 1 k) 1 = 1 → k = 0) ∧ (e_bit (fun x y => x &&& y) (e_bit (fun x y => x >>> (y &&& 31)) 3 k) 1 = 1 → k = 0 ∨ k = 1) ∧ (e_bit (fun x y => x &&& y) (e_bit (fun x y => x >>> (y &&& 31)) 7 k) 1 = 1 → k = 0 ∨ k = 1 ∨ k = 2) := by
  have h : k = 0 ∨ k = 1 ∨ k = 2 ∨ k = 3 := by omega
  rcases h with rfl | rfl | rfl | rfl <;> decide +kernel
/-- of a PART that is there by its KIND -/
theorem r_W_kind {g : Int → Int} (hW : r_W g) {q : Int} (hq : 0 ≤ q ∧ q < g 1198) : (0 ≤ g (28 * q) ∧ g (28 * q) ≤ 3) ∧ (g (28 * q) = 0 → r_cl g (g 1198) q) ∧ (g (28 * q) = 1 → r_rw g (g 1198) q) ∧ (g (28 * q) = 2 → r_fd g (g 1198) q) := by
  rcases hW.2.2.1 q hq.1 hq.2 with h | h | h | h <;> have hk := h.2.2.1
  · exact ⟨by omega, fun _ => h, fun e => by omega, fun e => by omega⟩
  · exact ⟨by omega, fun e => by omega, fun _ => h, fun e => by omega⟩
  · exact ⟨by omega, fun e => by omega, fun e => by omega, fun _ => h⟩
  · exact ⟨by omega, fun e => by omega, fun e => by omega, fun e => by omega⟩
/-! a CURVE -/
theorem r_mc_184 {p n x5 : Int} {M : EM} (hp : 0 ≤ p ∧ p < 40) (hn : n ≤ 6) : ∀ (m : Nat) (x3 x4 : Int), (n - x4).toNat ≤ m → 1 ≤ x4 → ∃ r, E_V 184 184 [192, p, n, x3, x4, x5] M = some (r, M) := by
  have hend : ∀ x3 x4, ¬ (x4 < n) → ∃ r, E_V 184 184 [192, p, n, x3, x4, x5] M = some (r, M) := by
    intro x3 x4 q
    refine ⟨x3, ?_⟩
    rw [E_V_eq]
    show e_tv E_C (E_V 184) e_t184_184 [192, p, n, x3, x4, x5] M = _
    unfold e_t184_184
    simp [e_tv, e_ev, e_sv, e_b1, e_b2, x_o1, x_o2, q]
  intro m
  induction m with
  | zero => intro x3 x4 hm h0; exact hend x3 x4 (by omega)
  | succ m ih =>
    intro x3 x4 hm h0
    rcases x_lt x4 n with ⟨q, q_n⟩ | ⟨q, q_n⟩
    · have w1 : e_w (28 * p) = 28 * p := a_w_id (by omega) (by omega)
      have w2 : e_w (28 * p + 9) = 28 * p + 9 := a_w_id (by omega) (by omega)
      have w3 : e_w (28 * p + 9 + x4) = 28 * p + 9 + x4 := a_w_id (by omega) (by omega)
      have w4 : e_w (28 * p + 8) = 28 * p + 8 := a_w_id (by omega) (by omega)
      have w5 : e_w (28 * p + 8 + x4) = 28 * p + 8 + x4 := a_w_id (by omega) (by omega)
      have w6 : e_w (x4 - 1) = x4 - 1 := a_w_id (by omega) (by omega)
      have w7 : e_w (x4 + 1) = x4 + 1 := a_w_id (by omega) (by omega)
      have k1 := r_of (M := M) (p := p) (k := x4) hp ⟨by omega, by omega⟩
      have k2 := r_of (M := M) (p := p) (k := x4 - 1) hp ⟨by omega, by omega⟩
      have l1 : e_op 60 [193, 28 * p + 9 + x4] M = some (r_G M (28 * p + 9 + x4)) := r_rd (by omega) (by omega)
      have l2 : e_op 60 [193, 28 * p + 8 + x4] M = some (r_G M (28 * p + 8 + x4)) := r_rd (by omega) (by omega)
      obtain ⟨r1, j1⟩ := ih 1 (x4 + 1) (by omega) (by omega)
      obtain ⟨r0, j0⟩ := ih 0 (x4 + 1) (by omega) (by omega)
      by_cases c0 : x3 = 0
      · refine ⟨r0, ?_⟩
        rw [E_V_eq]
        show e_tv E_C (E_V 184) e_t184_184 [192, p, n, x3, x4, x5] M = _
        unfold e_t184_184
        simp [e_tv, e_ev, e_sv, e_b1, e_b2, x_o1, x_o2, q, q_n, c0, w7, j0]
      · rcases x_lt (M 193 (28 * p + 3 + (x4 - 1)).toNat) (M 193 (28 * p + 3 + x4).toNat) with ⟨c1, c1_n⟩ | ⟨c1, c1_n⟩
        · rcases x_lt (r_G M (28 * p + 9 + x4)) (r_G M (28 * p + 8 + x4)) with ⟨c2, c2_n⟩ | ⟨c2, c2_n⟩
          · refine ⟨r1, ?_⟩
            rw [E_V_eq]
            show e_tv E_C (E_V 184) e_t184_184 [192, p, n, x3, x4, x5] M = _
            unfold e_t184_184
            simp [e_tv, e_ev, e_sv, e_b1, e_b2, x_o1, x_o2, r_O0, q, q_n, c0, w1, w2, w3, w4, w5, w6, w7, k1, k2, l1, l2, c1, c1_n, c2, c2_n, j1]
          · refine ⟨r0, ?_⟩
            rw [E_V_eq]
            show e_tv E_C (E_V 184) e_t184_184 [192, p, n, x3, x4, x5] M = _
            unfold e_t184_184
            simp [e_tv, e_ev, e_sv, e_b1, e_b2, x_o1, x_o2, r_O0, q, q_n, c0, w1, w2, w3, w4, w5, w6, w7, k1, k2, l1, l2, c1, c1_n, c2, c2_n, j0]
        · refine ⟨r0, ?_⟩
          rw [E_V_eq]
          show e_tv E_C (E_V 184) e_t184_184 [192, p, n, x3, x4, x5] M = _
          unfold e_t184_184
          simp [e_tv, e_ev, e_sv, e_b1, e_b2, x_o1, x_o2, r_O0, q, q_n, c0, w6, w7, k1, k2, c1, c1_n, j0]
    · exact hend x3 x4 q
