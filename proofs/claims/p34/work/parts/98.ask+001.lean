theorem r_held_b {p c w x4 x5 x6 x9 : Int} {M : EM} (hE : r_E M) (hp : r_rw (r_G M) 40 p) : ∀ (m : Nat) (x7 x8 : Int), (8 - x8).toNat ≤ m → 0 ≤ x8 → ∃ r, E_V 213 154 [192, p, c, w, x4, x5, x6, x7, x8, x9] M = some (r, M) := by
  obtain ⟨a1, a2, a3, a4, a5, a6, a7, a8⟩ := hp
  have w1 : e_w (28 * p) = 28 * p := a_w_id (by omega) (by omega)
  have w2 : e_w (28 * p + 19) = 28 * p + 19 := a_w_id (by omega) (by omega)
  have l1 : e_op 60 [193, 28 * p + 19] M = some (r_G M (28 * p + 19)) := r_rd (by omega) (by omega)
  have hend : ∀ x7 x8, ¬ (x8 < r_G M (28 * p + 19)) → ∃ r, E_V 213 154 [192, p, c, w, x4, x5, x6, x7, x8, x9] M = some (r, M) := by
    intro x7 x8 q
    by_cases c1 : w = 0
    · refine ⟨x4, ?_⟩
      rw [E_V_eq]
      show e_tv E_C (E_V 213) e_t213_154 [192, p, c, w, x4, x5, x6, x7, x8, x9] M = _
      unfold e_t213_154
      simp [e_tv, e_ev, e_sv, e_b1, e_b2, x_o1, x_o2, r_O0, w1, w2, l1, q, c1]
    · by_cases c2 : w = 1
      · refine ⟨x7, ?_⟩
        rw [E_V_eq]
        show e_tv E_C (E_V 213) e_t213_154 [192, p, c, w, x4, x5, x6, x7, x8, x9] M = _
        unfold e_t213_154
        simp [e_tv, e_ev, e_sv, e_b1, e_b2, x_o1, x_o2, r_O0, w1, w2, l1, q, c2]
      · refine ⟨x6, ?_⟩
        rw [E_V_eq]
        show e_tv E_C (E_V 213) e_t213_154 [192, p, c, w, x4, x5, x6, x7, x8, x9] M = _
        unfold e_t213_154
        simp [e_tv, e_ev, e_sv, e_b1, e_b2, x_o1, x_o2, r_O0, w1, w2, l1, q, c1, c2]
  intro m
  induction m with
  | zero => intro x7 x8 h5 h0; exact hend x7 x8 (by omega)
  | succ m ih =>
    intro x7 x8 h5 h0
    rcases x_lt x8 (r_G M (28 * p + 19)) with ⟨q, q_n⟩ | ⟨q, q_n⟩
    · have w4 : e_w (x8 + 1) = x8 + 1 := a_w_id (by omega) (by omega)
      obtain ⟨u, ku, hu⟩ := r_groupPush (g := x8) (c := c) hE ⟨a1, a2⟩ a5 a8
      obtain ⟨d, kd, hd⟩ := r_hasDiode (p := p) (g := x8) (M := M) ⟨a1, a2⟩ ⟨h0, by omega⟩
      obtain ⟨r1, k1⟩ := ih (e_w (x7 + 1)) (x8 + 1) (by omega) (by omega)
      obtain ⟨r0, k0⟩ := ih (e_w (x7 + 0)) (x8 + 1) (by omega) (by omega)
      rw [Int.add_zero] at k0
      by_cases c1 : d = 0
      · refine ⟨r0, ?_⟩
        rw [E_V_eq]
        show e_tv E_C (E_V 213) e_t213_154 [192, p, c, w, x4, x5, x6, x7, x8, x9] M = _
        unfold e_t213_154
        simp [e_tv, e_ev, e_sv, e_b1, e_b2, x_o1, x_o2, r_O0, q, q_n, w1, w2, w4, l1, kd, c1, k0]
      · rcases x_lt u (-1) with ⟨c2, c2_n⟩ | ⟨c2, c2_n⟩
        · refine ⟨r1, ?_⟩
          rw [E_V_eq]
          show e_tv E_C (E_V 213) e_t213_154 [192, p, c, w, x4, x5, x6, x7, x8, x9] M = _
          unfold e_t213_154
          simp [e_tv, e_ev, e_sv, e_b1, e_b2, x_o1, x_o2, r_O0, q, q_n, w1, w2, w4, l1, ku, kd, c1, c2, c2_n, k1]
        · refine ⟨r0, ?_⟩
          rw [E_V_eq]
          show e_tv E_C (E_V 213) e_t213_154 [192, p, c, w, x4, x5, x6, x7, x8, x9] M = _
          unfold e_t213_154
          simp [e_tv, e_ev, e_sv, e_b1, e_b2, x_o1, x_o2, r_O0, q, q_n, w1, w2, w4, l1, ku, kd, c1, c2, c2_n, k0]
    · exact hend x7 x8 q
theorem r_held_a {p c w : Int} {M : EM} (hE : r_E M) (hp : r_rw (r_G M) 40 p) : ∀ (m : Nat) (x4 x5 x6 x7 x8 x9 : Int), (8 - x7).toNat ≤ m → 0 ≤ x7 → ∃ r, E_V 213 58 [192, p, c, w, x4, x5, x6, x7, x8, x9] M = some (r, M) := by
  have hp' := hp
  obtain ⟨a1, a2, a3, a4, a5, a6, a7, a8⟩ := hp'
  have km : E_C 171 [192, p] M = some (r_G M (28 * p + 2), M) := r_many ⟨a1, a2⟩
  have hend : ∀ x4 x5 x6 x7 x8 x9, ¬ (x7 < r_G M (28 * p + 2)) → ∃ r, E_V 213 58 [192, p, c, w, x4, x5, x6, x7, x8, x9] M = some (r, M) := by
    intro x4 x5 x6 x7 x8 x9 q
    obtain ⟨r, k⟩ := r_held_b (c := c) (w := w) (x4 := x4) (x5 := x5) (x6 := x6) (x9 := x9) hE hp 8 0 0 (by decide) (by decide)
    refine ⟨r, ?_⟩
    rw [E_V_eq]
    show e_tv E_C (E_V 213) e_t213_58 [192, p, c, w, x4, x5, x6, x7, x8, x9] M = _
    unfold e_t213_58
    simp [e_tv, e_ev, e_sv, e_b1, e_b2, x_o1, x_o2, q, km, k]
  intro m
  induction m with
  | zero => intro x4 x5 x6 x7 x8 x9 h5 h0; exact hend x4 x5 x6 x7 x8 x9 (by omega)
  | succ m ih =>
    intro x4 x5 x6 x7 x8 x9 h5 h0
    rcases x_lt x7 (r_G M (28 * p + 2)) with ⟨q, q_n⟩ | ⟨q, q_n⟩
    · have w4 : e_w (x7 + 1) = x7 + 1 := a_w_id (by omega) (by omega)
      have ko : E_C 172 [192, p, x7] M = some (r_G M (28 * p + 3 + x7), M) := r_of ⟨a1, a2⟩ ⟨h0, by omega⟩
      obtain ⟨m1, m2, m3, m4, m5, m6⟩ := a8 x7 h0 q
      have hy : 0 ≤ r_G M (28 * p + 3 + x7) ∧ r_G M (28 * p + 3 + x7) < 40 := ⟨m1, by omega⟩
      obtain ⟨s, ks, hs⟩ := r_share hE hy m6
      obtain ⟨v, kv, hv⟩ := r_cellPush (c := c) (sh := s) (M := M) hy ⟨m4, m5⟩
      obtain ⟨a, ka, ha⟩ := r_currentAt (p := r_G M (28 * p + 3 + x7)) (i := 0) (sh := s) (M := M) hy ⟨by decide, by decide⟩
      generalize r_G M (28 * p + 3 + x7) = y at ko ks kv ka
      have hgo : ∀ y4 y5 y6, ∃ r, E_V 213 142 [192, p, c, w, y4, y5, y6, x7, y, v] M = some (r, M) := by
        intro y4 y5 y6
        obtain ⟨r, k⟩ := ih y4 y5 y6 (x7 + 1) y v (by omega) (by omega)
        refine ⟨r, ?_⟩
        rw [E_V_eq]
        show e_tv E_C (E_V 213) e_t213_142 [192, p, c, w, y4, y5, y6, x7, y, v] M = _
        unfold e_t213_142
        simp [e_tv, e_ev, e_sv, e_b1, e_b2, x_o1, x_o2, w4, k]
      have h1 : ∃ y6, ∀ t, e_tv E_C (E_V 213) e_t213_58 [192, p, c, w, x4, x5, x6, x7, x8, x9] M = t ↔ (if 0 ≤ x4 ∧ x5 ≤ v then E_V 213 142 [192, p, c, w, x4, x5, y6, x7, y, v] M else E_V 213 142 [192, p, c, w, y, v, y6, x7, y, v] M) = t := by
        unfold e_t213_58
        rcases x_lt a c with ⟨c1, c1_n⟩ | ⟨c1, c1_n⟩
        · refine ⟨e_w (x6 + 1), fun t => ?_⟩
          rcases x_le 0 x4 with ⟨c2, c2_n⟩ | ⟨c2, c2_n⟩
          · rcases x_le x5 v with ⟨c3, c3_n⟩ | ⟨c3, c3_n⟩
            · simp [e_tv, e_ev, e_sv, e_b1, e_b2, x_o1, x_o2, q, q_n, km, ko, ks, kv, ka, c1, c1_n, c2, c2_n, c3, c3_n]
            · simp [e_tv, e_ev, e_sv, e_b1, e_b2, x_o1, x_o2, q, q_n, km, ko, ks, kv, ka, c1, c1_n, c2, c2_n, c3, c3_n]
          · simp [e_tv, e_ev, e_sv, e_b1, e_b2, x_o1, x_o2, q, q_n, km, ko, ks, kv, ka, c1, c1_n, c2, c2_n]
        · refine ⟨e_w x6, fun t => ?_⟩
          rcases x_le 0 x4 with ⟨c2, c2_n⟩ | ⟨c2, c2_n⟩
          · rcases x_le x5 v with ⟨c3, c3_n⟩ | ⟨c3, c3_n⟩
            · simp [e_tv, e_ev, e_sv, e_b1, e_b2, x_o1, x_o2, q, q_n, km, ko, ks, kv, ka, c1, c1_n, c2, c2_n, c3, c3_n]
            · simp [e_tv, e_ev, e_sv, e_b1, e_b2, x_o1, x_o2, q, q_n, km, ko, ks, kv, ka, c1, c1_n, c2, c2_n, c3, c3_n]
          · simp [e_tv, e_ev, e_sv, e_b1, e_b2, x_o1, x_o2, q, q_n, km, ko, ks, kv, ka, c1, c1_n, c2, c2_n]
      obtain ⟨y6, h1⟩ := h1
      by_cases c2 : 0 ≤ x4 ∧ x5 ≤ v
      · obtain ⟨r, k⟩ := hgo x4 x5 y6
        refine ⟨r, (E_V_eq 213 58 _ M).trans ((h1 _).mpr ?_)⟩
        rw [if_pos c2]; exact k
      · obtain ⟨r, k⟩ := hgo y v y6
        refine ⟨r, (E_V_eq 213 58 _ M).trans ((h1 _).mpr ?_)⟩
        rw [if_neg c2]; exact k
    · exact hend x4 x5 x6 x7 x8 x9 q
