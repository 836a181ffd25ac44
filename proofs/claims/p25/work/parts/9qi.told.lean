section
/-! the class tells a STATEMENT: exactly -/
/-- whether a STATEMENT is as told: its sign c, its groups g, its n numbers from the f-th on -/
def w_tl (M : EM) (p : Nat) (c : Int) (f n : Nat) : Prop := p < 40 ∧ ((c = 99 ∧ 2 ≤ n / 2 ∧ n / 2 ≤ 6 ∧ w_cn M f (n / 2 - 1)) ∨ (c = 114 ∧ n ≤ 8 ∧ w_jn M p 1 f n) ∨ (c = 102 ∧ n ≤ 6 ∧ w_jn M p 2 f n) ∨ (c ≠ 99 ∧ c ≠ 114 ∧ c ≠ 102 ∧ w_jn M p 3 f n))
def w_to (M M' : EM) (p : Nat) (c g : Int) (f n : Nat) : Prop := (c = 99 → ∃ N, w_js M N p 0 ((n / 2 : Nat) : Int) f 0 ∧ w_cs N M' p f (n / 2)) ∧ (c = 114 → w_js M M' p 1 g f n) ∧ (c = 102 → w_js M M' p 2 n f n) ∧ (c ≠ 99 → c ≠ 114 → c ≠ 102 → w_js M M' p 3 1 f n)
/-- PARTS below m are kept, but that they may be in one from m on -/
def w_kp (M M' : EM) (m : Nat) : Prop :=
  (∀ q, q < m → M' 11 q = M 11 q ∧ M' 12 q = M 12 q ∧ M' 14 q = M 14 q ∧ M' 22 q = M 22 q ∧ M' 23 q = M 23 q ∧ M' 24 q = M 24 q ∧ (M' 13 q = M 13 q ∨ (M 13 q < 0 ∧ (m : Int) ≤ M' 13 q))) ∧
  (∀ q, q < 8 * m → M' 15 q = M 15 q ∧ M' 16 q = M 16 q ∧ M' 17 q = M 17 q) ∧
  (∀ q, q < 4 * m → M' 21 q = M 21 q) ∧
  (∀ q, q < 6 * m → M' 19 q = M 19 q ∧ M' 20 q = M 20 q) ∧
  (∀ id k, ¬ (10 ≤ id ∧ id ≤ 17) → ¬ (19 ≤ id ∧ id ≤ 24) → ¬ (37 + m ≤ id ∧ id ≤ 76) → M' id k = M id k) ∧
  (∀ k, k ≠ 0 → M' 10 k = M 10 k)
theorem w_kp_rf (M : EM) (m : Nat) : w_kp M M m := ⟨fun _ _ => ⟨rfl, rfl, rfl, rfl, rfl, rfl, Or.inl rfl⟩, fun _ _ => ⟨rfl, rfl, rfl⟩, fun _ _ => rfl, fun _ _ => ⟨rfl, rfl⟩, fun _ _ _ _ _ => rfl, fun _ _ => rfl⟩
theorem w_kp_tr {M M1 M2 : EM} {m m' : Nat} (hm : m ≤ m') (h : w_kp M M1 m) (k : w_kp M1 M2 m') : w_kp M M2 m := by
  obtain ⟨a1, a2, a3, a4, a5, a6⟩ := h
  obtain ⟨b1, b2, b3, b4, b5, b6⟩ := k
  refine ⟨fun q hq => ?_, fun q hq => ?_, fun q hq => ?_, fun q hq => ?_, fun id k h1 h2 h3 => ?_, fun k hk => ?_⟩
  · obtain ⟨c1, c2, c3, c4, c5, c6, c7⟩ := a1 q hq
    obtain ⟨d1, d2, d3, d4, d5, d6, d7⟩ := b1 q (by omega)
    exact ⟨d1.trans c1, d2.trans c2, d3.trans c3, d4.trans c4, d5.trans c5, d6.trans c6, by omega⟩
  · obtain ⟨c1, c2, c3⟩ := a2 q hq
    obtain ⟨d1, d2, d3⟩ := b2 q (by omega)
    exact ⟨d1.trans c1, d2.trans c2, d3.trans c3⟩
  · exact (b3 q (by omega)).trans (a3 q hq)
  · exact ⟨(b4 q (by omega)).1.trans (a4 q hq).1, (b4 q (by omega)).2.trans (a4 q hq).2⟩
  · exact (b5 id k h1 h2 (by omega)).trans (a5 id k h1 h2 h3)
  · exact (b6 k hk).trans (a6 k hk)
theorem w_js_kp {M0 M : EM} {p i f : Nat} {K t : Int} (hp : p < 40) (h : w_js M0 M p K t f i) (hj : w_jn M0 p K f i) : w_kp M0 M p := by
  obtain ⟨a1, a2, a3, a4, a5, a6, a7, a8, a9, a10, a11, a12, a13⟩ := h
  refine ⟨fun q hq => ?_, fun q hq => a9 q (by omega), fun q hq => a10 q (by omega), fun q hq => ⟨a13 _ _ (by omega) (by omega) (by omega) (by omega), a13 _ _ (by omega) (by omega) (by omega) (by omega)⟩, fun id k h1 h2 h3 => a13 _ _ (by omega) (by omega) (by omega) (by omega), fun k hk => a13 _ _ (by omega) (by omega) (by omega) (by omega)⟩
  obtain ⟨c1, c2, c3, c4, c5, c6⟩ := a8 q (by omega)
  refine ⟨c1, c2, c3, c4, c5, c6, ?_⟩
  by_cases e : ∃ j, j < i ∧ M0 167 (f + j) = (q : Int)
  · obtain ⟨j, hj1, hj2⟩ := e
    have d := (a6 j hj1).2.2.2
    have g := (hj j hj1).2.2.1
    rw [hj2, Int.toNat_natCast] at d g
    exact Or.inr ⟨g, by omega⟩
  · exact Or.inl (a7 q (by omega) (fun j hj1 hj2 => e ⟨j, hj1, hj2⟩))
theorem w_cs_kp {N M : EM} {p i f : Nat} (h : w_cs N M p f i) : w_kp N M p := by
  have z : ∀ id k, ¬ ((id = 19 ∨ id = 20) ∧ 6 * p ≤ k ∧ k < 6 * p + 6) → M id k = N id k := h.1
  exact ⟨fun q hq => ⟨z _ _ (by omega), z _ _ (by omega), z _ _ (by omega), z _ _ (by omega), z _ _ (by omega), z _ _ (by omega), Or.inl (z _ _ (by omega))⟩, fun q hq => ⟨z _ _ (by omega), z _ _ (by omega), z _ _ (by omega)⟩, fun q hq => z _ _ (by omega), fun q hq => ⟨z _ _ (by omega), z _ _ (by omega)⟩, fun id k h1 h2 h3 => z _ _ (by omega), fun k hk => z _ _ (by omega)⟩
theorem w_to_kp {M M' : EM} {p f n : Nat} {c g : Int} (h : w_to M M' p c g f n) (ht : w_tl M p c f n) : w_kp M M' p ∧ M' 10 0 = (p : Int) + 1 := by
  obtain ⟨hp, ht⟩ := ht
  obtain ⟨h1, h2, h3, h4⟩ := h
  rcases ht with ⟨e, b1, b2, b3⟩ | ⟨e, b1, b2⟩ | ⟨e, b1, b2⟩ | ⟨e1, e2, e3, b2⟩
  · obtain ⟨N, k1, k2⟩ := h1 e
    refine ⟨w_kp_tr (Nat.le_refl _) (w_js_kp hp k1 (fun j hj => absurd hj (Nat.not_lt_zero _))) (w_cs_kp k2), ?_⟩
    rw [k2.1 _ _ (by omega)]
    exact k1.2.2.2.2.1
  · have k := h2 e
    exact ⟨w_js_kp hp k b2, k.2.2.2.2.1⟩
  · have k := h3 e
    exact ⟨w_js_kp hp k b2, k.2.2.2.2.1⟩
  · have k := h4 e1 e2 e3
    exact ⟨w_js_kp hp k b2, k.2.2.2.2.1⟩
theorem w_68 {p f n : Nat} {c g : Int} {s : Nat} {M : EM} (h0 : M 10 0 = p) (hs : s < 120) (h1 : M 165 s = f) (h2 : M 165 (s + 1) = ((f + n : Nat) : Int)) (h3 : M 164 s = c) (h4 : M 166 s = g) (hf : f + n ≤ 120) (hb : c ≠ 99 → c ≠ 114 → c ≠ 102 → n ≤ 8) : ∃ r M', E_C 68 [162, 9, (s : Int)] M = some (r, M') ∧ w_kp M M' p ∧ ((r = 1 ∧ w_tl M p c f n ∧ w_to M M' p c g f n) ∨ (r = 0 ∧ ¬ w_tl M p c f n)) := by
  have s0 : E_C 68 [162, 9, (s : Int)] M = e_tv E_C (E_V 68) e_t68_0 [162, 9, (s : Int), 0, 0, 0] M := r_ent (u := 68) (as := [162, 9, (s : Int)]) (M := M) (decide_eq_true c_rd5)
  rw [s0]
  unfold e_t68_0
  have b1 : s < 121 := by omega
  have b2 : s + 1 < 121 := by omega
  have b3 : (s : Int) + 1 = ((s + 1 : Nat) : Int) := by omega
  have b4 : ((f + n : Nat) : Int) - (f : Int) = (n : Int) := by omega
  obtain ⟨m, hm⟩ : ∃ m : Nat, m = n / 2 := ⟨_, rfl⟩
  have hm1 : 2 * m ≤ n ∧ n ≤ 2 * m + 1 := by omega
  have td : (n : Int).tdiv 2 = (m : Int) := by
    rw [Int.tdiv_eq_ediv_of_nonneg (by omega)]
    omega
  have td' : (n : Int) / 2 = (m : Int) := by omega
  have b6 : f + 2 * m ≤ 120 := by
    clear hm td td'
    omega
  have w3 : e_w (m : Int) = (m : Int) := by
    clear hm td td'
    exact a_w_id (by omega) (by omega)
  have w1 : e_w ((s : Int) + 1) = (s : Int) + 1 := by
    clear hm td td'
    exact a_w_id (by omega) (by omega)
  have w2 : e_w (((f + n : Nat) : Int) - (f : Int)) = (n : Int) := by
    clear hm td td'
    exact (a_w_id (by omega) (by omega)).trans b4
  have t1 := w_atN (a := 165) (i := (s : Int)) (n := 121) (by decide +kernel) (j := s) rfl b1 M
  have t2 := w_atN (a := 165) (i := (s : Int) + 1) (n := 121) (by decide +kernel) (j := s + 1) b3 b2 M
  have t3 := w_atN (a := 164) (i := (s : Int)) (n := 120) (by decide +kernel) (j := s) rfl hs M
  have t4 := w_atN (a := 166) (i := (s : Int)) (n := 120) (by decide +kernel) (j := s) rfl hs M
  have t1' : E_C 146 [165, (s : Int)] M = some ((f : Int), M) := t1.trans (congrArg some (congrArg (·, M) h1))
  have t2' : E_C 146 [165, (s : Int) + 1] M = some (((f + n : Nat) : Int), M) := t2.trans (congrArg some (congrArg (·, M) h2))
  have t3' : E_C 146 [164, (s : Int)] M = some (c, M) := t3.trans (congrArg some (congrArg (·, M) h3))
  have t4' : E_C 146 [166, (s : Int)] M = some (g, M) := t4.trans (congrArg some (congrArg (·, M) h4))
  clear t1 t2 t3 t4
  unfold w_tl w_to
  rw [← hm]
  clear hm
  by_cases q0 : 40 > p
  · have q0' : ¬ ((40 : Int) ≤ (p : Int)) := by omega
    by_cases c1 : c = 99
    · subst c1
      obtain ⟨k1, k2⟩ := w_69 (f := f) (n := m) q0 b6 h0
      by_cases q1 : 2 ≤ m ∧ m ≤ 6
      · obtain ⟨r, N, M', k3, k4, k5, k6⟩ := k2 q1
        refine ⟨r, M', ?_, w_kp_tr (Nat.le_refl _) (w_js_kp q0 k4 (fun j hj => absurd hj (Nat.not_lt_zero _))) (w_cs_kp k5), ?_⟩
        · generalize ((f + n : Nat) : Int) = y at t2' w2
          simp [zq_a, zq_b, zq_c, zq_d, zq_e, zq_f, zq_g, zq_h, zq_i, zq_j, zq_k, zq_l, zq_m, zq_n, zq_o, zq_p, zq_q, zq_r, zq_s, zq_t, zq_u, zq_v, zq_w, zq_x, zq_y, zq_z, zq_A, zq_B, zq_C, zq_D, zq_E, zq_F, zq_G, zq_H, zq_I, zq_J, zq_K, zq_L, ↓zq_M, ↓zq_N, ↓zq_O, ↓zq_P, ↓zq_Q, ↓zq_R, zq_S, zq_T, zq_U, zq_V, zq_W, zq_X, zq_Y, zq_Z, zq_0, zq_1, zq_2, zq_3, zq_4, zq_5, ↓zq_6, ↓zq_7, ↓zq_8, ↓zq_9, ↓zq_aa, zq_ab, zq_ac, zq_ad, zq_ae, zq_af, zq_ag, ↓zq_ah, ↓zq_ai, ↓zq_aj, zq_ak, ↓zq_al, ↓zq_am, e_b1, e_b2, x_o1, x_o2, w_H0, w_P0, w_aB, w_aA, w_aC, h0, q0', t1', t2', t3', w1, w2, w3, td, td', k3]
        · rcases k6 with ⟨e1, e2⟩ | ⟨e1, e2⟩
          · exact Or.inl ⟨e1, ⟨q0, Or.inl ⟨rfl, q1.1, q1.2, e2⟩⟩, fun _ => ⟨N, k4, k5⟩, fun h => absurd h (by decide), fun h => absurd h (by decide), fun h => absurd rfl h⟩
          · exact Or.inr ⟨e1, fun h => by
              rcases h.2 with h | h | h | h
              · exact e2 h.2.2.2
              · exact absurd h.1 (by decide)
              · exact absurd h.1 (by decide)
              · exact absurd rfl h.1⟩
      · have k3 := k1 q1
        refine ⟨0, M, ?_, w_kp_rf _ _, Or.inr ⟨rfl, fun h => ?_⟩⟩
        · generalize ((f + n : Nat) : Int) = y at t2' w2
          simp [zq_a, zq_b, zq_c, zq_d, zq_e, zq_f, zq_g, zq_h, zq_i, zq_j, zq_k, zq_l, zq_m, zq_n, zq_o, zq_p, zq_q, zq_r, zq_s, zq_t, zq_u, zq_v, zq_w, zq_x, zq_y, zq_z, zq_A, zq_B, zq_C, zq_D, zq_E, zq_F, zq_G, zq_H, zq_I, zq_J, zq_K, zq_L, ↓zq_M, ↓zq_N, ↓zq_O, ↓zq_P, ↓zq_Q, ↓zq_R, zq_S, zq_T, zq_U, zq_V, zq_W, zq_X, zq_Y, zq_Z, zq_0, zq_1, zq_2, zq_3, zq_4, zq_5, ↓zq_6, ↓zq_7, ↓zq_8, ↓zq_9, ↓zq_aa, zq_ab, zq_ac, zq_ad, zq_ae, zq_af, zq_ag, ↓zq_ah, ↓zq_ai, ↓zq_aj, zq_ak, ↓zq_al, ↓zq_am, e_b1, e_b2, x_o1, x_o2, w_H0, w_P0, w_aB, w_aA, w_aC, h0, q0', t1', t2', t3', w1, w2, w3, td, td', k3]
        · rcases h.2 with h | h | h | h
          · exact q1 ⟨h.2.1, h.2.2.1⟩
          · exact absurd h.1 (by decide)
          · exact absurd h.1 (by decide)
          · exact absurd rfl h.1
    by_cases c2 : c = 114
    · subst c2
      by_cases q1 : 8 ≥ n
      · obtain ⟨r, M', i', k1, k2, k3, k4⟩ := w_70 (K := 1) (t := g) q0 q1 hf h0
        have q1' : (n : Int) ≤ 8 := by omega
        have q1_n : ¬ ((8 : Int) < (n : Int)) := by omega
        refine ⟨r, M', ?_, w_js_kp q0 k2 k3, ?_⟩
        · generalize ((f + n : Nat) : Int) = y at t2' w2
          rcases k4 with ⟨e1, e2⟩ | ⟨e1, e2, e3⟩
          · subst e1
            simp [zq_a, zq_b, zq_c, zq_d, zq_e, zq_f, zq_g, zq_h, zq_i, zq_j, zq_k, zq_l, zq_m, zq_n, zq_o, zq_p, zq_q, zq_r, zq_s, zq_t, zq_u, zq_v, zq_w, zq_x, zq_y, zq_z, zq_A, zq_B, zq_C, zq_D, zq_E, zq_F, zq_G, zq_H, zq_I, zq_J, zq_K, zq_L, ↓zq_M, ↓zq_N, ↓zq_O, ↓zq_P, ↓zq_Q, ↓zq_R, zq_S, zq_T, zq_U, zq_V, zq_W, zq_X, zq_Y, zq_Z, zq_0, zq_1, zq_2, zq_3, zq_4, zq_5, ↓zq_6, ↓zq_7, ↓zq_8, ↓zq_9, ↓zq_aa, zq_ab, zq_ac, zq_ad, zq_ae, zq_af, zq_ag, ↓zq_ah, ↓zq_ai, ↓zq_aj, zq_ak, ↓zq_al, ↓zq_am, e_b1, e_b2, x_o1, x_o2, w_H0, w_P0, w_aB, w_aA, w_aC, h0, q0', t1', t2', t3', t4', w1, w2, k1, q1', q1_n]
          · subst e1
            simp [zq_a, zq_b, zq_c, zq_d, zq_e, zq_f, zq_g, zq_h, zq_i, zq_j, zq_k, zq_l, zq_m, zq_n, zq_o, zq_p, zq_q, zq_r, zq_s, zq_t, zq_u, zq_v, zq_w, zq_x, zq_y, zq_z, zq_A, zq_B, zq_C, zq_D, zq_E, zq_F, zq_G, zq_H, zq_I, zq_J, zq_K, zq_L, ↓zq_M, ↓zq_N, ↓zq_O, ↓zq_P, ↓zq_Q, ↓zq_R, zq_S, zq_T, zq_U, zq_V, zq_W, zq_X, zq_Y, zq_Z, zq_0, zq_1, zq_2, zq_3, zq_4, zq_5, ↓zq_6, ↓zq_7, ↓zq_8, ↓zq_9, ↓zq_aa, zq_ab, zq_ac, zq_ad, zq_ae, zq_af, zq_ag, ↓zq_ah, ↓zq_ai, ↓zq_aj, zq_ak, ↓zq_al, ↓zq_am, e_b1, e_b2, x_o1, x_o2, w_H0, w_P0, w_aB, w_aA, w_aC, h0, q0', t1', t2', t3', t4', w1, w2, k1, q1', q1_n]
        · rcases k4 with ⟨e1, e2⟩ | ⟨e1, e2, e3⟩
          · subst e2
            exact Or.inl ⟨e1, ⟨q0, Or.inr (Or.inl ⟨rfl, q1, k3⟩)⟩, fun h => absurd h (by decide), fun _ => k2, fun h => absurd h (by decide), fun _ h => absurd rfl h⟩
          · exact Or.inr ⟨e1, fun h => by
              rcases h.2 with h | h | h | h
              · exact absurd h.1 (by decide)
              · exact e3 (h.2.2 i' e2)
              · exact absurd h.1 (by decide)
              · exact absurd rfl h.2.1⟩
      · refine ⟨0, M, ?_, w_kp_rf _ _, Or.inr ⟨rfl, fun h => ?_⟩⟩
        · have q1' : ¬ ((n : Int) ≤ 8) := by omega
          have q1_n : (8 : Int) < (n : Int) := by omega
          generalize ((f + n : Nat) : Int) = y at t2' w2
          simp [zq_a, zq_b, zq_c, zq_d, zq_e, zq_f, zq_g, zq_h, zq_i, zq_j, zq_k, zq_l, zq_m, zq_n, zq_o, zq_p, zq_q, zq_r, zq_s, zq_t, zq_u, zq_v, zq_w, zq_x, zq_y, zq_z, zq_A, zq_B, zq_C, zq_D, zq_E, zq_F, zq_G, zq_H, zq_I, zq_J, zq_K, zq_L, ↓zq_M, ↓zq_N, ↓zq_O, ↓zq_P, ↓zq_Q, ↓zq_R, zq_S, zq_T, zq_U, zq_V, zq_W, zq_X, zq_Y, zq_Z, zq_0, zq_1, zq_2, zq_3, zq_4, zq_5, ↓zq_6, ↓zq_7, ↓zq_8, ↓zq_9, ↓zq_aa, zq_ab, zq_ac, zq_ad, zq_ae, zq_af, zq_ag, ↓zq_ah, ↓zq_ai, ↓zq_aj, zq_ak, ↓zq_al, ↓zq_am, e_b1, e_b2, x_o1, x_o2, w_H0, w_P0, w_aB, w_aA, w_aC, h0, q0', t1', t2', t3', w1, w2, q1', q1_n]
        · rcases h.2 with h | h | h | h
          · exact absurd h.1 (by decide)
          · exact q1 h.2.1
          · exact absurd h.1 (by decide)
          · exact absurd rfl h.2.1
    by_cases c3 : c = 102
    · subst c3
      by_cases q1 : 6 ≥ n
      · obtain ⟨r, M', i', k1, k2, k3, k4⟩ := w_70 (K := 2) (t := n) q0 (by omega) hf h0
        have q1' : (n : Int) ≤ 6 := by omega
        have q1_n : ¬ ((6 : Int) < (n : Int)) := by omega
        refine ⟨r, M', ?_, w_js_kp q0 k2 k3, ?_⟩
        · generalize ((f + n : Nat) : Int) = y at t2' w2
          rcases k4 with ⟨e1, e2⟩ | ⟨e1, e2, e3⟩
          · subst e1
            simp [zq_a, zq_b, zq_c, zq_d, zq_e, zq_f, zq_g, zq_h, zq_i, zq_j, zq_k, zq_l, zq_m, zq_n, zq_o, zq_p, zq_q, zq_r, zq_s, zq_t, zq_u, zq_v, zq_w, zq_x, zq_y, zq_z, zq_A, zq_B, zq_C, zq_D, zq_E, zq_F, zq_G, zq_H, zq_I, zq_J, zq_K, zq_L, ↓zq_M, ↓zq_N, ↓zq_O, ↓zq_P, ↓zq_Q, ↓zq_R, zq_S, zq_T, zq_U, zq_V, zq_W, zq_X, zq_Y, zq_Z, zq_0, zq_1, zq_2, zq_3, zq_4, zq_5, ↓zq_6, ↓zq_7, ↓zq_8, ↓zq_9, ↓zq_aa, zq_ab, zq_ac, zq_ad, zq_ae, zq_af, zq_ag, ↓zq_ah, ↓zq_ai, ↓zq_aj, zq_ak, ↓zq_al, ↓zq_am, e_b1, e_b2, x_o1, x_o2, w_H0, w_P0, w_aB, w_aA, w_aC, h0, q0', t1', t2', t3', w1, w2, k1, q1', q1_n]
          · subst e1
            simp [zq_a, zq_b, zq_c, zq_d, zq_e, zq_f, zq_g, zq_h, zq_i, zq_j, zq_k, zq_l, zq_m, zq_n, zq_o, zq_p, zq_q, zq_r, zq_s, zq_t, zq_u, zq_v, zq_w, zq_x, zq_y, zq_z, zq_A, zq_B, zq_C, zq_D, zq_E, zq_F, zq_G, zq_H, zq_I, zq_J, zq_K, zq_L, ↓zq_M, ↓zq_N, ↓zq_O, ↓zq_P, ↓zq_Q, ↓zq_R, zq_S, zq_T, zq_U, zq_V, zq_W, zq_X, zq_Y, zq_Z, zq_0, zq_1, zq_2, zq_3, zq_4, zq_5, ↓zq_6, ↓zq_7, ↓zq_8, ↓zq_9, ↓zq_aa, zq_ab, zq_ac, zq_ad, zq_ae, zq_af, zq_ag, ↓zq_ah, ↓zq_ai, ↓zq_aj, zq_ak, ↓zq_al, ↓zq_am, e_b1, e_b2, x_o1, x_o2, w_H0, w_P0, w_aB, w_aA, w_aC, h0, q0', t1', t2', t3', w1, w2, k1, q1', q1_n]
        · rcases k4 with ⟨e1, e2⟩ | ⟨e1, e2, e3⟩
          · subst e2
            exact Or.inl ⟨e1, ⟨q0, Or.inr (Or.inr (Or.inl ⟨rfl, q1, k3⟩))⟩, fun h => absurd h (by decide), fun h => absurd h (by decide), fun _ => k2, fun _ _ h => absurd rfl h⟩
          · exact Or.inr ⟨e1, fun h => by
              rcases h.2 with h | h | h | h
              · exact absurd h.1 (by decide)
              · exact absurd h.1 (by decide)
              · exact e3 (h.2.2 i' e2)
              · exact absurd rfl h.2.2.1⟩
      · refine ⟨0, M, ?_, w_kp_rf _ _, Or.inr ⟨rfl, fun h => ?_⟩⟩
        · have q1' : ¬ ((n : Int) ≤ 6) := by omega
          have q1_n : (6 : Int) < (n : Int) := by omega
          generalize ((f + n : Nat) : Int) = y at t2' w2
          simp [zq_a, zq_b, zq_c, zq_d, zq_e, zq_f, zq_g, zq_h, zq_i, zq_j, zq_k, zq_l, zq_m, zq_n, zq_o, zq_p, zq_q, zq_r, zq_s, zq_t, zq_u, zq_v, zq_w, zq_x, zq_y, zq_z, zq_A, zq_B, zq_C, zq_D, zq_E, zq_F, zq_G, zq_H, zq_I, zq_J, zq_K, zq_L, ↓zq_M, ↓zq_N, ↓zq_O, ↓zq_P, ↓zq_Q, ↓zq_R, zq_S, zq_T, zq_U, zq_V, zq_W, zq_X, zq_Y, zq_Z, zq_0, zq_1, zq_2, zq_3, zq_4, zq_5, ↓zq_6, ↓zq_7, ↓zq_8, ↓zq_9, ↓zq_aa, zq_ab, zq_ac, zq_ad, zq_ae, zq_af, zq_ag, ↓zq_ah, ↓zq_ai, ↓zq_aj, zq_ak, ↓zq_al, ↓zq_am, e_b1, e_b2, x_o1, x_o2, w_H0, w_P0, w_aB, w_aA, w_aC, h0, q0', t1', t2', t3', w1, w2, q1', q1_n]
        · rcases h.2 with h | h | h | h
          · exact absurd h.1 (by decide)
          · exact absurd h.1 (by decide)
          · exact q1 h.2.1
          · exact absurd rfl h.2.2.1
    · obtain ⟨r, M', i', k1, k2, k3, k4⟩ := w_70 (K := 3) (t := 1) q0 (hb c1 c2 c3) hf h0
      refine ⟨r, M', ?_, w_js_kp q0 k2 k3, ?_⟩
      · generalize ((f + n : Nat) : Int) = y at t2' w2
        simp [zq_a, zq_b, zq_c, zq_d, zq_e, zq_f, zq_g, zq_h, zq_i, zq_j, zq_k, zq_l, zq_m, zq_n, zq_o, zq_p, zq_q, zq_r, zq_s, zq_t, zq_u, zq_v, zq_w, zq_x, zq_y, zq_z, zq_A, zq_B, zq_C, zq_D, zq_E, zq_F, zq_G, zq_H, zq_I, zq_J, zq_K, zq_L, ↓zq_M, ↓zq_N, ↓zq_O, ↓zq_P, ↓zq_Q, ↓zq_R, zq_S, zq_T, zq_U, zq_V, zq_W, zq_X, zq_Y, zq_Z, zq_0, zq_1, zq_2, zq_3, zq_4, zq_5, ↓zq_6, ↓zq_7, ↓zq_8, ↓zq_9, ↓zq_aa, zq_ab, zq_ac, zq_ad, zq_ae, zq_af, zq_ag, ↓zq_ah, ↓zq_ai, ↓zq_aj, zq_ak, ↓zq_al, ↓zq_am, e_b1, e_b2, x_o1, x_o2, w_H0, w_P0, w_aB, w_aA, w_aC, h0, q0', t1', t2', t3', w1, w2, k1, c1, c2, c3]
      · rcases k4 with ⟨e1, e2⟩ | ⟨e1, e2, e3⟩
        · subst e2
          exact Or.inl ⟨e1, ⟨q0, Or.inr (Or.inr (Or.inr ⟨c1, c2, c3, k3⟩))⟩, fun h => absurd h c1, fun h => absurd h c2, fun h => absurd h c3, fun _ _ _ => k2⟩
        · exact Or.inr ⟨e1, fun h => by
            rcases h.2 with h | h | h | h
            · exact absurd h.1 c1
            · exact absurd h.1 c2
            · exact absurd h.1 c3
            · exact e3 (h.2.2.2 i' e2)⟩
  · refine ⟨0, M, ?_, w_kp_rf _ _, Or.inr ⟨rfl, fun h => q0 h.1⟩⟩
    have q0' : (40 : Int) ≤ (p : Int) := by omega
    simp [zq_a, zq_b, zq_c, zq_d, zq_e, zq_f, zq_g, zq_h, zq_i, zq_j, zq_k, zq_l, zq_m, zq_n, zq_o, zq_p, zq_q, zq_r, zq_s, zq_t, zq_u, zq_v, zq_w, zq_x, zq_y, zq_z, zq_A, zq_B, zq_C, zq_D, zq_E, zq_F, zq_G, zq_H, zq_I, zq_J, zq_K, zq_L, ↓zq_M, ↓zq_N, ↓zq_O, ↓zq_P, ↓zq_Q, ↓zq_R, zq_S, zq_T, zq_U, zq_V, zq_W, zq_X, zq_Y, zq_Z, zq_0, zq_1, zq_2, zq_3, zq_4, zq_5, ↓zq_6, ↓zq_7, ↓zq_8, ↓zq_9, ↓zq_aa, zq_ab, zq_ac, zq_ad, zq_ae, zq_af, zq_ag, ↓zq_ah, ↓zq_ai, ↓zq_aj, zq_ak, ↓zq_al, ↓zq_am, e_b1, e_b2, x_o1, x_o2, w_H0, w_P0, h0, q0']
end
section
/-! the class reads a TEXT: exactly -/
section WTP
variable {b : Nat → Int} {n k j : Nat}
theorem w_pos (hA : w_A b k) : ∀ s : Int, 0 ≤ s → s ≤ w_T b k 7 → ∃ j, j ≤ k ∧ w_T b j 2 = 0 ∧ w_T b j 7 = s := by
  induction k with
  | zero =>
    intro s h0 h1
    have e : w_T b 0 7 = 0 := rfl
    exact ⟨0, Nat.le_refl _, rfl, by omega⟩
  | succ k ih =>
    intro s h0 h1
    obtain ⟨a1, a2⟩ := w_A1 hA
    by_cases q : w_T b k 7 ≥ s
    · obtain ⟨j, j1, j2, j3⟩ := ih a1 s h0 q
      exact ⟨j, by omega, j2, j3⟩
    · have e7 := w_nx7 a2
      rw [← w_Tn] at e7
      by_cases c : w_T b k 2 ≠ 0 ∧ w_T b k 2 ≠ 1 ∧ b k = 59
      · rw [if_pos c] at e7
        refine ⟨k + 1, Nat.le_refl _, ?_, by omega⟩
        rw [w_Tn, w_nx2, if_neg c.1, if_neg c.2.1, if_neg (by omega), if_neg (by omega), if_neg (by omega), if_neg (by omega)]
      · rw [if_neg c] at e7
        omega
/-- within a STATEMENT: its sign stays; of a BOX just one number -/
theorem w_in3 (hj : w_T b j 2 = 0) : ∀ d, w_A b (j + (d + 1)) → (∀ i, i < d → w_T b (j + (i + 1)) 2 ≠ 0) → w_T b (j + (d + 1)) 3 = b j := by
  intro d
  induction d with
  | zero =>
    intro _ _
    show w_T b (j + 1) 3 = _
    rw [w_Tn, w_nx3, if_pos hj]
  | succ d ih =>
    intro hA hz
    have i := ih (w_Al hA (by omega)) (fun i hi => hz i (by omega))
    show w_T b (j + (d + 1) + 1) 3 = _
    rw [w_Tn, w_nx3, if_neg (hz d (by omega))]
    exact i
theorem w_inb (hj : w_T b j 2 = 0) (hb : b j = 98) : ∀ d, w_A b (j + (d + 1)) → (∀ i, i < d → w_T b (j + (i + 1)) 2 ≠ 0) → (w_T b (j + (d + 1)) 5 = 0) ∧ ((w_T b (j + (d + 1)) 2 = 1 ∧ w_T b (j + (d + 1)) 8 = w_T b j 8) ∨ (w_T b (j + (d + 1)) 2 ≠ 1 ∧ w_T b (j + (d + 1)) 8 = w_T b j 8 + 1)) := by
  intro d
  induction d with
  | zero =>
    intro _ _
    show w_T b (j + 1) 5 = 0 ∧ ((w_T b (j + 1) 2 = 1 ∧ w_T b (j + 1) 8 = w_T b j 8) ∨ (w_T b (j + 1) 2 ≠ 1 ∧ w_T b (j + 1) 8 = w_T b j 8 + 1))
    rw [w_Tn, w_nx2, w_nx5, w_nx8, if_pos hj, if_pos hj, if_neg (by omega)]
    exact ⟨rfl, Or.inl ⟨rfl, rfl⟩⟩
  | succ d ih =>
    intro hA hz
    have hA1 : w_A b (j + (d + 1) + 1) := hA
    have a2 := (w_A1 hA1).2
    have i := ih (w_Al hA (by omega)) (fun i hi => hz i (by omega))
    have z := hz d (by omega)
    have e3 := w_in3 hj d (w_Al hA (by omega)) (fun i hi => hz i (by omega))
    rw [hb] at e3
    show w_T b (j + (d + 1) + 1) 5 = 0 ∧ ((w_T b (j + (d + 1) + 1) 2 = 1 ∧ w_T b (j + (d + 1) + 1) 8 = w_T b j 8) ∨ (w_T b (j + (d + 1) + 1) 2 ≠ 1 ∧ w_T b (j + (d + 1) + 1) 8 = w_T b j 8 + 1))
    have e2 := w_nx2 (s := w_T b (j + (d + 1))) (c := b (j + (d + 1)))
    have e5 := w_nx5 (s := w_T b (j + (d + 1))) (c := b (j + (d + 1)))
    have e8 := w_nx8 (s := w_T b (j + (d + 1))) (c := b (j + (d + 1)))
    rw [← w_Tn] at e2 e5 e8
    generalize w_T b (j + (d + 1) + 1) = t at e2 e5 e8 ⊢
    generalize w_T b (j + (d + 1)) = s at i z e3 a2 e2 e5 e8
    generalize w_T b j 8 = v at i ⊢
    generalize b (j + (d + 1)) = c at a2 e2 e5 e8
    clear ih hA1 hA hz hj hb
    unfold w_ok at a2
    obtain ⟨i5, i⟩ := i
    rw [if_neg z] at a2 e2 e5
    by_cases q1 : s 2 = 1
    · rw [if_pos q1] at a2 e2 e5
      have dg : 48 ≤ c ∧ c ≤ 57 := by omega
      rw [if_pos dg] at e2 e5
      rw [if_pos ⟨q1, dg⟩] at e8
      by_cases q3 : c = 48
      · rw [if_pos q3] at e2; omega
      · rw [if_neg q3] at e2; omega
    · rw [if_neg q1] at a2 e2 e5
      rw [if_neg (fun e => q1 e.1)] at e8
      by_cases q2 : s 2 = 2 ∧ 48 ≤ c ∧ c ≤ 57
      · rw [if_pos q2] at e2 e5
        omega
      · have c59 : c = 59 := by omega
        rw [if_neg q2, if_neg (by omega), if_neg (by omega), if_neg (by omega)] at e2
        rw [if_neg q2, if_neg (by omega)] at e5
        omega
/-- the next place where a STATEMENT may begin -/
theorem w_nxt (hA : w_A b k) (hj : w_T b j 2 = 0) (hjk : j < k) (hk : w_T b k 2 = 0) (h7 : w_T b k 7 = w_T b j 7 + 1) : ∀ i, j < i → i < k → w_T b i 2 ≠ 0 := by
  intro i h1 h2 hi
  have a := w_S7 (w_Al hA (show i ≤ k by omega)) h1 hi
  have c := w_S7 hA h2 hk
  omega
end WTP
/-- what the class's rows tell of the s-th STATEMENT -/
theorem w_told {b : Nat → Int} {n : Nat} {M : EM} (hK : w_K b n M) (hA : w_A b n) (hn : n ≤ 120) (hz : w_T b n 2 = 0) {s : Nat} (hs : (s : Int) < w_T b n 7) : ∃ j k, j < k ∧ k ≤ n ∧ w_T b j 2 = 0 ∧ w_T b k 2 = 0 ∧ w_T b j 7 = s ∧ w_T b k 7 = s + 1 ∧ M 163 s = j ∧ M 164 s = b j ∧ M 165 s = w_T b j 8 ∧ M 165 (s + 1) = w_T b k 8 ∧ M 166 s = w_T b k 6 ∧ 0 ≤ w_T b j 8 ∧ w_T b j 8 ≤ w_T b k 8 ∧ w_T b k 8 ≤ 120 ∧ (M 164 s ≠ 99 → M 164 s ≠ 114 → M 164 s ≠ 102 → w_T b k 8 = w_T b j 8 + 1) := by
  obtain ⟨-, ks, ke, -⟩ := hK
  obtain ⟨j, j1, j2, j3⟩ := w_pos hA s (by omega) (by omega)
  obtain ⟨k, k1, k2, k3⟩ := w_pos hA ((s : Int) + 1) (by omega) (by omega)
  have hjk : j < k := by
    rcases Nat.lt_or_ge j k with h | h
    · exact h
    · have := w_m7 (w_Al hA j1) h
      omega
  have ij := w_Ii (w_Al hA j1)
  have ik := w_Ii (w_Al hA k1)
  unfold w_I at ij ik
  obtain ⟨a1, a2⟩ := ks j (by omega) j2
  obtain ⟨c1, -⟩ := ke j j1 j2
  obtain ⟨d1, d2⟩ := ke k k1 k2
  rw [j3, Int.toNat_natCast] at a1 a2 c1
  have e1 : ((s : Int) + 1).toNat = s + 1 := by omega
  have e2 : ((s : Int) + 1 - 1).toNat = s := by omega
  rw [k3, e1] at d1
  rw [k3, e2] at d2
  have nn := w_nxt (w_Al hA k1) j2 hjk k2 (by omega)
  refine ⟨j, k, hjk, k1, j2, k2, j3, k3, a1, a2, c1, d1, d2 (by omega), ij.2.2.2.2.1, w_m8 (by omega), by omega, fun h1 h2 h3 => ?_⟩
  rw [a2] at h1 h2 h3
  have ok := hA j (by omega)
  unfold w_ok at ok
  rw [if_pos j2] at ok
  have hb : b j = 98 := by omega
  have B := w_inb j2 hb (k - j - 1) (by rw [show j + (k - j - 1 + 1) = k by omega]; exact w_Al hA k1) (fun i hi => nn _ (by omega) (by omega))
  rw [show j + (k - j - 1 + 1) = k by omega] at B
  omega
/-- the first n PARTS have lost what came behind them -/
def w_ct (M0 M : EM) (n i : Nat) : Prop := (∀ q, q < i → M 13 q = if (n : Int) ≤ M0 13 q then -1 else M0 13 q) ∧ (∀ q, i ≤ q → M 13 q = M0 13 q) ∧ (∀ id k, id ≠ 13 → M id k = M0 id k)
theorem w_55 {n : Nat} (hn : n ≤ 40) (M : EM) : ∃ M', E_C 55 [10, (n : Int)] M = some (0, M') ∧ w_ct (e_up M 10 0 n) M' n n := by
  have s0 : E_C 55 [10, (n : Int)] M = e_tv E_C (E_V 55) e_t55_0 [10, (n : Int), 0] M := r_ent (u := 55) (as := [10, (n : Int)]) (M := M) (decide_eq_true (show e_isO 4 10 by decide +kernel))
  have lp : ∀ (m i : Nat) (M0 M : EM), i + m = n → w_ct M0 M n i → ∃ M', E_V 55 7 [10, (n : Int), (i : Int)] M = some (0, M') ∧ w_ct M0 M' n n := by
    intro m
    induction m with
    | zero =>
      intro i M0 M hm h
      have e : i = n := by omega
      subst e
      refine ⟨M, ?_, h⟩
      rw [E_V_eq]
      show e_tv E_C (E_V 55) e_t55_7 [10, (i : Int), (i : Int)] M = _
      unfold e_t55_7
      simp [zq_a, zq_b, zq_c, zq_d, zq_e, zq_f, zq_g, zq_h, zq_i, zq_j, zq_k, zq_l, zq_m, zq_n, zq_o, zq_p, zq_q, zq_r, zq_s, zq_t, zq_u, zq_v, zq_w, zq_x, zq_y, zq_z, zq_A, zq_B, zq_C, zq_D, zq_E, zq_F, zq_G, zq_H, zq_I, zq_J, zq_K, zq_L, ↓zq_M, ↓zq_N, ↓zq_O, ↓zq_P, ↓zq_Q, ↓zq_R, zq_S, zq_T, zq_U, zq_V, zq_W, zq_X, zq_Y, zq_Z, zq_0, zq_1, zq_2, zq_3, zq_4, zq_5, ↓zq_6, ↓zq_7, ↓zq_8, ↓zq_9, ↓zq_aa, zq_ab, zq_ac, zq_ad, zq_ae, zq_af, zq_ag, ↓zq_ah, ↓zq_ai, ↓zq_aj, zq_ak, ↓zq_al, ↓zq_am, e_b1, e_b2, x_o1, x_o2]
    | succ m ih =>
      intro i M0 M hm h
      obtain ⟨h1, h2, h3⟩ := h
      have qlt : (i : Int) < (n : Int) := by omega
      have w1 : e_w ((i : Int) + 1) = ((i + 1 : Nat) : Int) := (a_w_id (by omega) (by omega)).trans (by omega)
      have t1 := w_atN (a := 13) (i := (i : Int)) (n := 40) (by decide +kernel) (j := i) rfl (by omega) M
      have l1 := fun v => w_layN (a := 13) (i := (i : Int)) (n := 40) (by decide +kernel) (j := i) rfl (by omega) v M
      have s33 : ∀ M, E_V 55 33 [10, (n : Int), (i : Int)] M = E_V 55 7 [10, (n : Int), ((i + 1 : Nat) : Int)] M := by
        intro M
        generalize ((i + 1 : Nat) : Int) = y at w1 ⊢
        rw [E_V_eq]
        show e_tv E_C (E_V 55) e_t55_33 [10, (n : Int), (i : Int)] M = _
        unfold e_t55_33
        simp [zq_a, zq_b, zq_c, zq_d, zq_e, zq_f, zq_g, zq_h, zq_i, zq_j, zq_k, zq_l, zq_m, zq_n, zq_o, zq_p, zq_q, zq_r, zq_s, zq_t, zq_u, zq_v, zq_w, zq_x, zq_y, zq_z, zq_A, zq_B, zq_C, zq_D, zq_E, zq_F, zq_G, zq_H, zq_I, zq_J, zq_K, zq_L, ↓zq_M, ↓zq_N, ↓zq_O, ↓zq_P, ↓zq_Q, ↓zq_R, zq_S, zq_T, zq_U, zq_V, zq_W, zq_X, zq_Y, zq_Z, zq_0, zq_1, zq_2, zq_3, zq_4, zq_5, ↓zq_6, ↓zq_7, ↓zq_8, ↓zq_9, ↓zq_aa, zq_ab, zq_ac, zq_ad, zq_ae, zq_af, zq_ag, ↓zq_ah, ↓zq_ai, ↓zq_aj, zq_ak, ↓zq_al, ↓zq_am, e_b1, e_b2, x_o1, x_o2, w1]
      rcases x_le ((n : Int)) (M 13 i) with ⟨c, c_n⟩ | ⟨c, c_n⟩
      · obtain ⟨M', k1, c1⟩ := ih (i + 1) M0 (e_up M 13 i (-1)) (by omega) ⟨fun q hq => by
          by_cases e : q = i
          · subst e
            rw [c_up_s, ← h2 q (Nat.le_refl _), if_pos c]
          · rw [c_up_n (by omega)]
            exact h1 q (by omega), fun q hq => by
          rw [c_up_n (by omega)]
          exact h2 q (by omega), fun id k hid => by
          rw [c_up_n (by omega)]
          exact h3 id k hid⟩
        refine ⟨M', ?_, c1⟩
        rw [← k1, ← s33]
        clear s33 k1
        rw [E_V_eq]
        show e_tv E_C (E_V 55) e_t55_7 [10, (n : Int), (i : Int)] M = _
        unfold e_t55_7
        simp [zq_a, zq_b, zq_c, zq_d, zq_e, zq_f, zq_g, zq_h, zq_i, zq_j, zq_k, zq_l, zq_m, zq_n, zq_o, zq_p, zq_q, zq_r, zq_s, zq_t, zq_u, zq_v, zq_w, zq_x, zq_y, zq_z, zq_A, zq_B, zq_C, zq_D, zq_E, zq_F, zq_G, zq_H, zq_I, zq_J, zq_K, zq_L, ↓zq_M, ↓zq_N, ↓zq_O, ↓zq_P, ↓zq_Q, ↓zq_R, zq_S, zq_T, zq_U, zq_V, zq_W, zq_X, zq_Y, zq_Z, zq_0, zq_1, zq_2, zq_3, zq_4, zq_5, ↓zq_6, ↓zq_7, ↓zq_8, ↓zq_9, ↓zq_aa, zq_ab, zq_ac, zq_ad, zq_ae, zq_af, zq_ag, ↓zq_ah, ↓zq_ai, ↓zq_aj, zq_ak, ↓zq_al, ↓zq_am, e_b1, e_b2, x_o1, x_o2, w_P3, qlt, t1, c, c_n, l1]
      · obtain ⟨M', k1, c1⟩ := ih (i + 1) M0 M (by omega) ⟨fun q hq => by
          by_cases e : q = i
          · subst e
            rw [← h2 q (Nat.le_refl _), if_neg c]
          · exact h1 q (by omega), fun q hq => h2 q (by omega), h3⟩
        refine ⟨M', ?_, c1⟩
        rw [← k1, ← s33]
        clear s33 k1
        rw [E_V_eq]
        show e_tv E_C (E_V 55) e_t55_7 [10, (n : Int), (i : Int)] M = _
        unfold e_t55_7
        simp [zq_a, zq_b, zq_c, zq_d, zq_e, zq_f, zq_g, zq_h, zq_i, zq_j, zq_k, zq_l, zq_m, zq_n, zq_o, zq_p, zq_q, zq_r, zq_s, zq_t, zq_u, zq_v, zq_w, zq_x, zq_y, zq_z, zq_A, zq_B, zq_C, zq_D, zq_E, zq_F, zq_G, zq_H, zq_I, zq_J, zq_K, zq_L, ↓zq_M, ↓zq_N, ↓zq_O, ↓zq_P, ↓zq_Q, ↓zq_R, zq_S, zq_T, zq_U, zq_V, zq_W, zq_X, zq_Y, zq_Z, zq_0, zq_1, zq_2, zq_3, zq_4, zq_5, ↓zq_6, ↓zq_7, ↓zq_8, ↓zq_9, ↓zq_aa, zq_ab, zq_ac, zq_ad, zq_ae, zq_af, zq_ag, ↓zq_ah, ↓zq_ai, ↓zq_aj, zq_ak, ↓zq_al, ↓zq_am, e_b1, e_b2, x_o1, x_o2, w_P3, qlt, t1, c, c_n]
  obtain ⟨M', k1, c1⟩ := lp n 0 (e_up M 10 0 n) (e_up M 10 0 n) (by omega) ⟨fun q hq => absurd hq (Nat.not_lt_zero _), fun _ _ => rfl, fun _ _ _ => rfl⟩
  refine ⟨M', ?_, c1⟩
  rw [s0]
  unfold e_t55_0
  have k1' : E_V 55 7 [10, (n : Int), 0] (e_up M 10 0 n) = some (0, M') := k1
  simp [zq_a, zq_b, zq_c, zq_d, zq_e, zq_f, zq_g, zq_h, zq_i, zq_j, zq_k, zq_l, zq_m, zq_n, zq_o, zq_p, zq_q, zq_r, zq_s, zq_t, zq_u, zq_v, zq_w, zq_x, zq_y, zq_z, zq_A, zq_B, zq_C, zq_D, zq_E, zq_F, zq_G, zq_H, zq_I, zq_J, zq_K, zq_L, ↓zq_M, ↓zq_N, ↓zq_O, ↓zq_P, ↓zq_Q, ↓zq_R, zq_S, zq_T, zq_U, zq_V, zq_W, zq_X, zq_Y, zq_Z, zq_0, zq_1, zq_2, zq_3, zq_4, zq_5, ↓zq_6, ↓zq_7, ↓zq_8, ↓zq_9, ↓zq_aa, zq_ab, zq_ac, zq_ad, zq_ae, zq_af, zq_ag, ↓zq_ah, ↓zq_ai, ↓zq_aj, zq_ak, ↓zq_al, ↓zq_am, e_b1, e_b2, x_o1, x_o2, w_Q0, k1']
/-- STATEMENT s, as the reader's rows N tell it, may come; it makes M1 of M -/
def w_tS (N M : EM) (p s : Nat) : Prop := w_tl M (p + s) (N 164 s) (N 165 s).toNat (N 165 (s + 1) - N 165 s).toNat
def w_oS (N M M1 : EM) (p s : Nat) : Prop := w_to M M1 (p + s) (N 164 s) (N 166 s) (N 165 s).toNat (N 165 (s + 1) - N 165 s).toNat
def w_run (N : EM) (p : Nat) : Nat → Nat → EM → EM → Prop
  | _, 0, M, M' => M' = M
  | s, d + 1, M, M' => ∃ M1, w_tS N M p s ∧ w_oS N M M1 p s ∧ w_run N p (s + 1) d M1 M'
/-- all is as it was, but that the reader's rows are written, and PARTS behind m -/
def w_back (M M' : EM) (m : Nat) : Prop := (∀ q, q < m → M' 11 q = M 11 q ∧ M' 12 q = M 12 q ∧ M' 13 q = M 13 q ∧ M' 14 q = M 14 q ∧ M' 22 q = M 22 q ∧ M' 23 q = M 23 q ∧ M' 24 q = M 24 q) ∧
  (∀ q, q < 8 * m → M' 15 q = M 15 q ∧ M' 16 q = M 16 q ∧ M' 17 q = M 17 q) ∧
  (∀ q, q < 4 * m → M' 21 q = M 21 q) ∧
  (∀ q, q < 6 * m → M' 19 q = M 19 q ∧ M' 20 q = M 20 q) ∧
  (∀ id k, ¬ (11 ≤ id ∧ id ≤ 17) → ¬ (19 ≤ id ∧ id ≤ 24) → ¬ (37 + m ≤ id ∧ id ≤ 76) → M' id k = M id k)
theorem w_58l {h : Int} {b : Nat → Int} {n : Nat} {N : EM} {p : Nat} (hp : p ≤ 40) (hK : w_K b n N) (hA : w_A b n) (hn : n ≤ 120) (hz : w_T b n 2 = 0) (h10 : N 10 0 = p) (hw : ∀ q, q < p → -1 ≤ N 13 q ∧ N 13 q < p) : ∀ (m s : Nat) (M : EM), (s : Int) + m = w_T b n 7 → w_kp N M p → M 10 0 = ((p + s : Nat) : Int) → ∃ r M', E_V 58 28 [162, h, 9, (p : Int), (s : Int)] M = some (r, M') ∧ ∃ d Mx, w_run N p s d M Mx ∧ ((((s + d : Nat) : Int) = w_T b n 7 ∧ M' = Mx ∧ r = w_T b n 7) ∨ (((s + d : Nat) : Int) < w_T b n 7 ∧ ¬ w_tS N Mx p (s + d) ∧ r = -2000 - N 163 (s + d) ∧ w_back N M' p)) := by
  intro m
  induction m with
  | zero =>
    intro s M hs hk h0
    have k5 := hk.2.2.2.2.1
    have e7 : M 162 7 = w_T b n 7 := (k5 _ _ (by omega) (by omega) (by omega)).trans hK.1.2.1
    have q : ¬ ((s : Int) < M 162 7) := by omega
    have hs' : (s : Int) = w_T b n 7 := by omega
    have s120 : s ≤ 120 := by
      have := w_Ii hA
      unfold w_I at this
      omega
    refine ⟨w_T b n 7, M, ?_, 0, M, rfl, Or.inl ⟨hs', rfl, rfl⟩⟩
    rw [← hs'] at e7 ⊢
    have w0 : ((p + s : Nat) : Int) - (p : Int) = (s : Int) := by omega
    have w1 : e_w (((p + s : Nat) : Int) - (p : Int)) = (s : Int) := by
      rw [w0]
      clear w0 q hs' e7 k5 hk hw h10 hz hA hK hs h0
      exact a_w_id (by omega) (by omega)
    clear w0
    generalize ((p + s : Nat) : Int) = y at w1 h0
    rw [E_V_eq]
    show e_tv E_C (E_V 58) e_t58_28 [162, h, 9, (p : Int), (s : Int)] M = _
    unfold e_t58_28
    simp [zq_a, zq_b, zq_c, zq_d, zq_e, zq_f, zq_g, zq_h, zq_i, zq_j, zq_k, zq_l, zq_m, zq_n, zq_o, zq_p, zq_q, zq_r, zq_s, zq_t, zq_u, zq_v, zq_w, zq_x, zq_y, zq_z, zq_A, zq_B, zq_C, zq_D, zq_E, zq_F, zq_G, zq_H, zq_I, zq_J, zq_K, zq_L, ↓zq_M, ↓zq_N, ↓zq_O, ↓zq_P, ↓zq_Q, ↓zq_R, zq_S, zq_T, zq_U, zq_V, zq_W, zq_X, zq_Y, zq_Z, zq_0, zq_1, zq_2, zq_3, zq_4, zq_5, ↓zq_6, ↓zq_7, ↓zq_8, ↓zq_9, ↓zq_aa, zq_ab, zq_ac, zq_ad, zq_ae, zq_af, zq_ag, ↓zq_ah, ↓zq_ai, ↓zq_aj, zq_ak, ↓zq_al, ↓zq_am, e_b1, e_b2, x_o1, x_o2, w_f7, w_H0, w_P0, e7, h0, w1]
  | succ m ih =>
    intro s M hs hk h0
    have k5 := hk.2.2.2.2.1
    have kk : ∀ id i, 162 ≤ id → M id i = N id i := fun id i h => k5 _ _ (by omega) (by omega) (by omega)
    have e7 : M 162 7 = w_T b n 7 := (kk _ _ (by omega)).trans hK.1.2.1
    have q : (s : Int) < w_T b n 7 := by omega
    have s120 : s < 120 := by
      have := w_Ii hA
      unfold w_I at this
      omega
    obtain ⟨j, k, u1, u2, u3, u4, u5, u6, u7, u8, u9, u10, u11, u12, u13, u14, u15⟩ := w_told hK hA hn hz q
    obtain ⟨f, hf⟩ : ∃ f : Nat, w_T b j 8 = f := ⟨(w_T b j 8).toNat, by omega⟩
    obtain ⟨l, hl⟩ : ∃ l : Nat, w_T b k 8 = ((f + l : Nat) : Int) := ⟨(w_T b k 8 - w_T b j 8).toNat, by omega⟩
    rw [hf] at u9 u12 u13 u15
    rw [hl] at u10 u13 u14 u15
    have ef : (N 165 s).toNat = f := by rw [u9]; omega
    have el : (N 165 (s + 1) - N 165 s).toNat = l := by rw [u9, u10]; omega
    obtain ⟨r, M1, k1, k2, k3⟩ := w_68 (p := p + s) (f := f) (n := l) (c := N 164 s) (g := N 166 s) (s := s) (M := M) h0 s120 (by rw [kk _ _ (by omega)]; exact u9) (by rw [kk _ _ (by omega)]; exact u10) (kk _ _ (by omega)) (kk _ _ (by omega)) (by omega) (fun h1 h2 h3 => by have := u15 h1 h2 h3; omega)
    rcases k3 with ⟨e1, t1, t2⟩ | ⟨e1, t1⟩
    · obtain ⟨-, z10⟩ := w_to_kp t2 t1
      obtain ⟨r', M', g1, d, Mx, g2, g3⟩ := ih (s + 1) M1 (by omega) (w_kp_tr (by omega) hk k2) (by rw [z10]; omega)
      refine ⟨r', M', ?_, d + 1, Mx, ⟨M1, ?_, ?_, g2⟩, ?_⟩
      · subst e1
        have w1 : e_w ((s : Int) + 1) = ((s + 1 : Nat) : Int) := by
          clear k1 k2 t1 t2 g1 g2 g3 u1 u2 u3 u4 u5 u6 u7 u8 u9 u10 u11 u12 u13 u14 u15 hw hK hA hz hs h0 q e7
          exact (a_w_id (by omega) (by omega)).trans (by omega)
        generalize ((s + 1 : Nat) : Int) = y at w1 g1
        rw [E_V_eq]
        show e_tv E_C (E_V 58) e_t58_28 [162, h, 9, (p : Int), (s : Int)] M = _
        unfold e_t58_28
        simp [zq_a, zq_b, zq_c, zq_d, zq_e, zq_f, zq_g, zq_h, zq_i, zq_j, zq_k, zq_l, zq_m, zq_n, zq_o, zq_p, zq_q, zq_r, zq_s, zq_t, zq_u, zq_v, zq_w, zq_x, zq_y, zq_z, zq_A, zq_B, zq_C, zq_D, zq_E, zq_F, zq_G, zq_H, zq_I, zq_J, zq_K, zq_L, ↓zq_M, ↓zq_N, ↓zq_O, ↓zq_P, ↓zq_Q, ↓zq_R, zq_S, zq_T, zq_U, zq_V, zq_W, zq_X, zq_Y, zq_Z, zq_0, zq_1, zq_2, zq_3, zq_4, zq_5, ↓zq_6, ↓zq_7, ↓zq_8, ↓zq_9, ↓zq_aa, zq_ab, zq_ac, zq_ad, zq_ae, zq_af, zq_ag, ↓zq_ah, ↓zq_ai, ↓zq_aj, zq_ak, ↓zq_al, ↓zq_am, e_b1, e_b2, x_o1, x_o2, w_f7, e7, q, k1, w1, g1]
      · unfold w_tS
        rw [ef, el]
        exact t1
      · unfold w_oS
        rw [ef, el]
        exact t2
      · rw [show s + (d + 1) = s + 1 + d by omega]
        exact g3
    · obtain ⟨M', g1, g2, g3, g4⟩ := w_55 hp M1
      have kp1 := w_kp_tr (by omega) hk k2
      have t9 := w_atN (a := 163) (i := (s : Int)) (n := 120) (by decide +kernel) (j := s) rfl s120 M'
      have z163 : M' 163 s = N 163 s := by
        rw [g4 _ _ (by decide), c_up_n (by omega)]
        exact kp1.2.2.2.2.1 _ _ (by omega) (by omega) (by omega)
      have t9' : E_C 146 [163, (s : Int)] M' = some (N 163 s, M') := t9.trans (congrArg some (congrArg (·, M') z163))
      refine ⟨-2000 - N 163 s, M', ?_, 0, M, rfl, Or.inr ⟨by omega, ?_, rfl, ?_⟩⟩
      · subst e1
        have w2 : e_w (-2000 - N 163 s) = -2000 - N 163 s := by
          rw [u7]
          have uj : j ≤ 120 := by omega
          clear k1 k2 t1 t9 t9' g1 g2 g3 g4 z163 kp1 u1 u2 u3 u4 u5 u6 u7 u8 u9 u10 u11 u12 u13 u14 u15 hw hK hA hz hs h0 q e7
          exact a_w_id (by omega) (by omega)
        rw [E_V_eq]
        show e_tv E_C (E_V 58) e_t58_28 [162, h, 9, (p : Int), (s : Int)] M = _
        unfold e_t58_28
        simp [zq_a, zq_b, zq_c, zq_d, zq_e, zq_f, zq_g, zq_h, zq_i, zq_j, zq_k, zq_l, zq_m, zq_n, zq_o, zq_p, zq_q, zq_r, zq_s, zq_t, zq_u, zq_v, zq_w, zq_x, zq_y, zq_z, zq_A, zq_B, zq_C, zq_D, zq_E, zq_F, zq_G, zq_H, zq_I, zq_J, zq_K, zq_L, ↓zq_M, ↓zq_N, ↓zq_O, ↓zq_P, ↓zq_Q, ↓zq_R, zq_S, zq_T, zq_U, zq_V, zq_W, zq_X, zq_Y, zq_Z, zq_0, zq_1, zq_2, zq_3, zq_4, zq_5, ↓zq_6, ↓zq_7, ↓zq_8, ↓zq_9, ↓zq_aa, zq_ab, zq_ac, zq_ad, zq_ae, zq_af, zq_ag, ↓zq_ah, ↓zq_ai, ↓zq_aj, zq_ak, ↓zq_al, ↓zq_am, e_b1, e_b2, x_o1, x_o2, w_f7, w_H0, w_a9, e7, q, k1, g1, t9', w2]
      · unfold w_tS
        rw [show s + 0 = s from rfl, ef, el]
        exact t1
      · obtain ⟨a1, a2, a3, a4, a5, a6⟩ := kp1
        refine ⟨fun q hq => ?_, fun q hq => ?_, fun q hq => ?_, fun q hq => ?_, fun id k h1 h2 h3 => ?_⟩
        · obtain ⟨c1, c2, c3, c4, c5, c6, c7⟩ := a1 q hq
          have hwq := hw q hq
          refine ⟨?_, ?_, ?_, ?_, ?_, ?_, ?_⟩
          · rw [g4 _ _ (by decide), c_up_n (by omega)]; exact c1
          · rw [g4 _ _ (by decide), c_up_n (by omega)]; exact c2
          · rw [g2 q hq, c_up_n (by omega)]
            rcases c7 with c7 | ⟨c7, c8⟩
            · rw [c7, if_neg (by omega)]
            · rw [if_pos c8]; omega
          · rw [g4 _ _ (by decide), c_up_n (by omega)]; exact c3
          · rw [g4 _ _ (by decide), c_up_n (by omega)]; exact c4
          · rw [g4 _ _ (by decide), c_up_n (by omega)]; exact c5
          · rw [g4 _ _ (by decide), c_up_n (by omega)]; exact c6
        · rw [g4 _ _ (by decide), c_up_n (by omega), g4 _ _ (by decide), c_up_n (by omega), g4 _ _ (by decide), c_up_n (by omega)]
          exact a2 q hq
        · rw [g4 _ _ (by decide), c_up_n (by omega)]
          exact a3 q hq
        · rw [g4 _ _ (by decide), c_up_n (by omega), g4 _ _ (by decide), c_up_n (by omega)]
          exact a4 q hq
        · rw [g4 _ _ (by omega)]
          by_cases e : id = 10 ∧ k = 0
          · obtain ⟨rfl, rfl⟩ := e
            rw [c_up_s]
            exact h10.symm
          · rw [c_up_n e]
            by_cases e2 : id = 10
            · subst e2
              exact a6 k (fun hk => e ⟨rfl, hk⟩)
            · exact a5 id k (by omega) h2 h3
end
