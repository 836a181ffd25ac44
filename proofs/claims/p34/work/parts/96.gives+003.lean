theorem r_gives {b p : Int} {M : EM} (hE : r_E M) (hb : b ≤ 40) (hp : r_pt (r_G M) b p) : ∃ M', E_C 203 [192, p] M = some (0, M') ∧ r_ev M M' := by
  obtain ⟨M', k, hM'⟩ := r_gives_loop hb 1000 0 M hE hp (by decide) (by decide)
  refine ⟨M', ?_, hM'⟩
  rw [r_ent (show e_rok 203 [192, p] = true from decide_eq_true r_ref)]
  show e_tv E_C (E_V 203) e_t203_0 [192, p, 0] M = _
  unfold e_t203_0
  simp [e_tv, e_ev, e_sv, e_b1, e_b2, x_o1, x_o2, k]
theorem r_best_loop {M : EM} (hM : a_M M) : ∀ (m : Nat) (x1 x2 : Int), (501 - x2).toNat ≤ m → 0 ≤ x2 → 0 ≤ x1 → x1 ≤ 500 → ∃ r, E_V 208 4 [192, x1, x2] M = some (r, M) ∧ 0 ≤ r ∧ r ≤ 500 := by
  have hend : ∀ x1 x2, ¬ (x2 ≤ 500) → 0 ≤ x1 → x1 ≤ 500 → ∃ r, E_V 208 4 [192, x1, x2] M = some (r, M) ∧ 0 ≤ r ∧ r ≤ 500 := by
    intro x1 x2 q h0 h1
    refine ⟨x1, ?_, h0, h1⟩
    rw [E_V_eq]
    show e_tv E_C (E_V 208) e_t208_4 [192, x1, x2] M = _
    unfold e_t208_4
    simp [e_tv, e_ev, e_sv, e_b1, e_b2, x_o1, x_o2, q]
  intro m
  induction m with
  | zero => intro x1 x2 hm h2 h0 h1; exact hend x1 x2 (by omega) h0 h1
  | succ m ih =>
    intro x1 x2 hm h2 h0 h1
    rcases x_le x2 500 with ⟨q, q_n⟩ | ⟨q, q_n⟩
    · have w4 : e_w (x2 + 1) = x2 + 1 := a_w_id (by omega) (by omega)
      have g1 := r_rd5 (M := M) h0 (by omega)
      have g2 := r_rd5 (M := M) h2 (by omega)
      have hgo : ∀ y, 0 ≤ y → y ≤ 500 → ∃ r, E_V 208 32 [192, y, x2] M = some (r, M) ∧ 0 ≤ r ∧ r ≤ 500 := by
        intro y y0 y1
        obtain ⟨r, k, hr⟩ := ih y (x2 + 1) (by omega) (by omega) y0 y1
        refine ⟨r, ?_, hr⟩
        rw [E_V_eq]
        show e_tv E_C (E_V 208) e_t208_32 [192, y, x2] M = _
        unfold e_t208_32
        simp [e_tv, e_ev, e_sv, e_b1, e_b2, x_o1, x_o2, w4, k]
      rcases x_lt (e_w (x1 * M 205 x1.toNat)) (e_w (x2 * M 205 x2.toNat)) with ⟨c, c_n⟩ | ⟨c, c_n⟩
      · obtain ⟨r, k, hr⟩ := hgo x2 h2 q
        refine ⟨r, ?_, hr⟩
        rw [E_V_eq]
        show e_tv E_C (E_V 208) e_t208_4 [192, x1, x2] M = _
        unfold e_t208_4
        simp [e_tv, e_ev, e_sv, e_b1, e_b2, x_o1, x_o2, r_O25, q, q_n, g1, g2, c, c_n, k]
      · obtain ⟨r, k, hr⟩ := hgo x1 h0 h1
        refine ⟨r, ?_, hr⟩
        rw [E_V_eq]
        show e_tv E_C (E_V 208) e_t208_4 [192, x1, x2] M = _
        unfold e_t208_4
        simp [e_tv, e_ev, e_sv, e_b1, e_b2, x_o1, x_o2, r_O25, q, q_n, g1, g2, c, c_n, k]
    · exact hend x1 x2 q h0 h1
theorem r_bestOf {M : EM} (hM : a_M M) : ∃ r, E_C 208 [192] M = some (r, M) ∧ 0 ≤ r ∧ r ≤ 500 := by
  obtain ⟨r, k, hr⟩ := r_best_loop hM 501 0 1 (by decide) (by decide) (by decide) (by decide)
  refine ⟨r, ?_, hr⟩
  rw [r_ent (show e_rok 208 [192] = true from decide_eq_true r_ref)]
  show e_tv E_C (E_V 208) e_t208_0 [192, 0, 0] M = _
  unfold e_t208_0
  simp [e_tv, e_ev, e_sv, e_b1, e_b2, x_o1, x_o2, k]
theorem r_bestPower {b p : Int} {M : EM} (hE : r_E M) (hb : b ≤ 40) (hp : r_pt (r_G M) b p) : ∃ r M', E_C 209 [192, p] M = some (r, M') ∧ r_ev M M' := by
  obtain ⟨M1, k1, e1⟩ := r_gives hE hb hp
  obtain ⟨u, ku, hu⟩ := r_bestOf e1.1
  have g1 := r_rd5 (M := M1) hu.1 (by omega)
  refine ⟨e_w (u * M1 205 u.toNat), M1, ?_, e1⟩
  rw [r_ent (show e_rok 209 [192, p] = true from decide_eq_true r_ref)]
  show e_tv E_C (E_V 209) e_t209_0 [192, p, 0] M = _
  unfold e_t209_0
  simp [e_tv, e_ev, e_sv, e_b1, e_b2, x_o1, x_o2, r_O25, k1, ku, g1]
theorem r_power {u : Int} {M : EM} (hM : a_M M) (h0 : 0 ≤ u) : r_P 211 [192, u] M := by
  rcases x_lt 500 u with ⟨c, c_n⟩ | ⟨c, c_n⟩
  · refine ⟨0, ?_, by decide, by decide⟩
    rw [r_ent (show e_rok 211 [192, u] = true from decide_eq_true r_ref)]
    show e_tv E_C (E_V 211) e_t211_0 [192, u] M = _
    unfold e_t211_0
    simp [e_tv, e_ev, e_sv, e_b1, e_b2, x_o1, x_o2, c, c_n]
  · have g1 := r_rd5 (M := M) h0 (by omega)
    refine ⟨e_w (u * M 205 u.toNat), ?_, a_w _⟩
    rw [r_ent (show e_rok 211 [192, u] = true from decide_eq_true r_ref)]
    show e_tv E_C (E_V 211) e_t211_0 [192, u] M = _
    unfold e_t211_0
    simp [e_tv, e_ev, e_sv, e_b1, e_b2, x_o1, x_o2, r_O25, c, c_n, g1]

