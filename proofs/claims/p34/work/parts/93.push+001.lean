theorem r_pushAt {p i : Int} {M : EM} (hp : 0 ≤ p ∧ p < 40) (hi : 0 ≤ i ∧ i < 200) : r_P 193 [192, p, i] M := by
  have w1 : e_w (28 * p) = 28 * p := a_w_id (by omega) (by omega)
  have w2 : e_w (28 * p + 15) = 28 * p + 15 := a_w_id (by omega) (by omega)
  have w3 : e_w (28 * p + 15 + 3) = 28 * p + 15 + 3 := a_w_id (by omega) (by omega)
  have l1 : e_op 60 [193, 28 * p + 15 + 3] M = some (r_G M (28 * p + 15 + 3)) := r_rd (by omega) (by omega)
  have k := r_of (M := M) hp hi
  suffices hs : ∃ w, E_C 193 [192, p, i] M = some (e_w (M 193 (28 * p + 3 + i).toNat - e_w ((e_w (M 193 (28 * p + 3 + i).toNat * w)).tdiv 100)), M) by
    obtain ⟨w, k⟩ := hs
    exact ⟨_, k, a_w _⟩
  by_cases c4 : e_bit (fun x y => x &&& y) (M 192 22) 8 = 8
  · refine ⟨0, ?_⟩
    rw [r_ent (show e_rok 193 [192, p, i] = true from decide_eq_true r_ref)]
    show e_tv E_C (E_V 193) e_t193_0 [192, p, i, 0] M = _
    unfold e_t193_0
    simp [e_tv, e_ev, e_sv, e_b1, e_b2, x_o1, x_o2, r_O0, r_F22, w1, w2, w3, l1, c4, k]
  · refine ⟨r_G M (28 * p + 15 + 3), ?_⟩
    rw [r_ent (show e_rok 193 [192, p, i] = true from decide_eq_true r_ref)]
    show e_tv E_C (E_V 193) e_t193_0 [192, p, i, 0] M = _
    unfold e_t193_0
    simp [e_tv, e_ev, e_sv, e_b1, e_b2, x_o1, x_o2, r_O0, r_F22, w1, w2, w3, l1, c4, k]
theorem r_currentAt {p i sh : Int} {M : EM} (hp : 0 ≤ p ∧ p < 40) (hi : 0 ≤ i ∧ i < 200) : r_P 194 [192, p, i, sh] M := by
  have w1 : e_w (28 * p) = 28 * p := a_w_id (by omega) (by omega)
  have w2 : e_w (28 * p + 9) = 28 * p + 9 := a_w_id (by omega) (by omega)
  have w3 : e_w (28 * p + 9 + i) = 28 * p + 9 + i := a_w_id (by omega) (by omega)
  have l1 : e_op 60 [193, 28 * p + 9 + i] M = some (r_G M (28 * p + 9 + i)) := r_rd (by omega) (by omega)
  refine ⟨e_w ((e_w (r_G M (28 * p + 9 + i) * sh)).tdiv 100), ?_, a_w _⟩
  rw [r_ent (show e_rok 194 [192, p, i, sh] = true from decide_eq_true r_ref)]
  show e_tv E_C (E_V 194) e_t194_0 [192, p, i, sh] M = _
  unfold e_t194_0
  simp [e_tv, e_ev, e_sv, e_b1, e_b2, x_o1, x_o2, r_O0, w1, w2, w3, l1]
theorem r_ne_w {a b : Int} (ha : -2147483648 ≤ a ∧ a ≤ 2147483647) (hb : -2147483648 ≤ b ∧ b ≤ 2147483647) (h : a ≠ b) : e_w (a - b) ≠ 0 := by
  unfold e_w
  omega
theorem r_cell_loop {p c sh x4 : Int} {M : EM} (hp : 0 ≤ p ∧ p < 40) : ∀ (m : Nat) (x5 x6 x7 x8 : Int), x5.toNat ≤ m → x5 ≤ 100 → ∃ r, E_V 198 46 [192, p, c, sh, x4, x5, x6, x7, x8] M = some (r, M) ∧ -2147483648 ≤ r ∧ r ≤ 2147483647 := by
  have hend : ∀ x5 x6 x7 x8, ¬ (0 < x5) → ∃ r, E_V 198 46 [192, p, c, sh, x4, x5, x6, x7, x8] M = some (r, M) ∧ -2147483648 ≤ r ∧ r ≤ 2147483647 := by
    intro x5 x6 x7 x8 q
    refine ⟨0, ?_, by decide, by decide⟩
    rw [E_V_eq]
    show e_tv E_C (E_V 198) e_t198_46 [192, p, c, sh, x4, x5, x6, x7, x8] M = _
    unfold e_t198_46
    simp [e_tv, e_ev, e_sv, e_b1, e_b2, x_o1, x_o2, q]
  intro m
  induction m with
  | zero => intro x5 x6 x7 x8 hm h0; exact hend x5 x6 x7 x8 (by omega)
  | succ m ih =>
    intro x5 x6 x7 x8 hm h0
    rcases x_lt 0 x5 with ⟨q, q_n⟩ | ⟨q, q_n⟩
    · have w1 : e_w (x5 - 1) = x5 - 1 := a_w_id (by omega) (by omega)
      have w2 : e_w (x5 + -1) = x5 - 1 := a_w_id (by omega) (by omega)
      obtain ⟨a, ka, ha⟩ := r_currentAt (p := p) (i := x5) (sh := sh) (M := M) hp ⟨by omega, by omega⟩
      obtain ⟨b, kb, hb⟩ := r_currentAt (p := p) (i := x5 - 1) (sh := sh) (M := M) hp ⟨by omega, by omega⟩
      obtain ⟨s, ks, hs⟩ := r_pushAt (p := p) (i := x5) (M := M) hp ⟨by omega, by omega⟩
      obtain ⟨t, kt, ht⟩ := r_pushAt (p := p) (i := x5 - 1) (M := M) hp ⟨by omega, by omega⟩
      have hgo : ∀ y6 y7 y8, ∃ r, E_V 198 136 [192, p, c, sh, x4, x5, y6, y7, y8] M = some (r, M) ∧ -2147483648 ≤ r ∧ r ≤ 2147483647 := by
        intro y6 y7 y8
        obtain ⟨r, k, hr⟩ := ih (x5 - 1) y6 y7 y8 (by omega) (by omega)
        refine ⟨r, ?_, hr⟩
        rw [E_V_eq]
        show e_tv E_C (E_V 198) e_t198_136 [192, p, c, sh, x4, x5, y6, y7, y8] M = _
        unfold e_t198_136
        simp [e_tv, e_ev, e_sv, e_b1, e_b2, x_o1, x_o2, w2, k]
      rcases x_le a c with ⟨c1, c1_n⟩ | ⟨c1, c1_n⟩
      · rcases x_lt b c with ⟨c2, c2_n⟩ | ⟨c2, c2_n⟩
        · obtain ⟨r, k, hr⟩ := hgo a b x8
          refine ⟨r, ?_, hr⟩
          rw [E_V_eq]
          show e_tv E_C (E_V 198) e_t198_46 [192, p, c, sh, x4, x5, x6, x7, x8] M = _
          unfold e_t198_46
          simp [e_tv, e_ev, e_sv, e_b1, e_b2, x_o1, x_o2, q, q_n, w1, ka, kb, c1, c1_n, c2, c2_n, k]
        · by_cases c3 : b = a
          · refine ⟨s, ?_, hs⟩
            rw [c3] at kb c2
            rw [E_V_eq]
            show e_tv E_C (E_V 198) e_t198_46 [192, p, c, sh, x4, x5, x6, x7, x8] M = _
            unfold e_t198_46
            simp [e_tv, e_ev, e_sv, e_b1, e_b2, x_o1, x_o2, q, q_n, w1, ka, kb, ks, c1, c1_n, c2, c2_n]
          · have c4 := r_ne_w hb ha c3
            refine ⟨e_w (s - e_w ((e_w (e_w (s - t) * e_w (c - a))).tdiv (e_w (b - a)))), ?_, a_w _⟩
            rw [E_V_eq]
            show e_tv E_C (E_V 198) e_t198_46 [192, p, c, sh, x4, x5, x6, x7, x8] M = _
            unfold e_t198_46
            simp [e_tv, e_ev, e_sv, e_b1, e_b2, x_o1, x_o2, q, q_n, w1, ka, kb, ks, kt, c1, c1_n, c2, c2_n, c3, c4]
      · obtain ⟨r, k, hr⟩ := hgo a b x8
        refine ⟨r, ?_, hr⟩
        rw [E_V_eq]
        show e_tv E_C (E_V 198) e_t198_46 [192, p, c, sh, x4, x5, x6, x7, x8] M = _
        unfold e_t198_46
        simp [e_tv, e_ev, e_sv, e_b1, e_b2, x_o1, x_o2, q, q_n, w1, ka, kb, c1, c1_n, k]
    · exact hend x5 x6 x7 x8 q
theorem r_cellPush {p c sh : Int} {M : EM} (hp : 0 ≤ p ∧ p < 40) (hn : 0 ≤ r_G M (28 * p + 2) ∧ r_G M (28 * p + 2) ≤ 6) : r_P 198 [192, p, c, sh] M := by
  obtain ⟨a, ka, ha⟩ := r_currentAt (p := p) (i := 0) (sh := sh) (M := M) hp ⟨by decide, by decide⟩
  have km : E_C 171 [192, p] M = some (r_G M (28 * p + 2), M) := r_many hp
  have w1 : e_w (r_G M (28 * p + 2) - 1) = r_G M (28 * p + 2) - 1 := a_w_id (by omega) (by omega)
  obtain ⟨r, k, hr⟩ := r_cell_loop (c := c) (sh := sh) (x4 := a) (M := M) hp _ (r_G M (28 * p + 2) - 1) 0 0 0 (Nat.le_refl _) (by omega)
  rcases x_lt a c with ⟨c1, c1_n⟩ | ⟨c1, c1_n⟩
  · rcases x_lt 10 (e_w (c - a)) with ⟨c2, c2_n⟩ | ⟨c2, c2_n⟩
    · refine ⟨-20, ?_, by decide, by decide⟩
      rw [r_ent (show e_rok 198 [192, p, c, sh] = true from decide_eq_true r_ref)]
      show e_tv E_C (E_V 198) e_t198_0 [192, p, c, sh, 0, 0, 0, 0, 0] M = _
      unfold e_t198_0
      simp [e_tv, e_ev, e_sv, e_b1, e_b2, x_o1, x_o2, ka, c1, c1_n, c2, c2_n]
    · refine ⟨e_w (-2 * e_w (c - a)), ?_, a_w _⟩
      rw [r_ent (show e_rok 198 [192, p, c, sh] = true from decide_eq_true r_ref)]
      show e_tv E_C (E_V 198) e_t198_0 [192, p, c, sh, 0, 0, 0, 0, 0] M = _
      unfold e_t198_0
      simp [e_tv, e_ev, e_sv, e_b1, e_b2, x_o1, x_o2, ka, c1, c1_n, c2, c2_n]
  · refine ⟨r, ?_, hr⟩
    rw [r_ent (show e_rok 198 [192, p, c, sh] = true from decide_eq_true r_ref)]
    show e_tv E_C (E_V 198) e_t198_0 [192, p, c, sh, 0, 0, 0, 0, 0] M = _
    unfold e_t198_0
    simp [e_tv, e_ev, e_sv, e_b1, e_b2, x_o1, x_o2, ka, c1, c1_n, km, w1, k]

