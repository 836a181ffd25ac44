/-! the class tells a STATEMENT: exactly -/
/-- whether a STATEMENT is as told: its sign c, its groups g, its n numbers from the f-th on -/
def w_tl (M : EM) (p : Nat) (c : Int) (f n : Nat) : Prop := p < 40 ∧ ((c = 99 ∧ 2 ≤ n / 2 ∧ n / 2 ≤ 6 ∧ w_cn M f (n / 2 - 1)) ∨ (c = 114 ∧ n ≤ 8 ∧ w_jn M p 1 f n) ∨ (c = 102 ∧ n ≤ 6 ∧ w_jn M p 2 f n) ∨ (c ≠ 99 ∧ c ≠ 114 ∧ c ≠ 102 ∧ w_jn M p 3 f n))
def w_to (M M' : EM) (p : Nat) (c g : Int) (f n : Nat) : Prop := (c = 99 → ∃ N, w_js M N p 0 ((n / 2 : Nat) : Int) f 0 ∧ w_cs N M' p f (n / 2)) ∧ (c = 114 → w_js M M' p 1 g f n) ∧ (c = 102 → w_js M M' p 2 n f n) ∧ (c ≠ 99 → c ≠ 114 → c ≠ 102 → w_js M M' p 3 1 f n)
/-- PARTS below m are kept, but that they may be in one from m on -/
def w_kp (M M' : EM) (m : Nat) : Prop :=
  (∀ q, q < m → M' 11 q = M 11 q ∧ M' 12 q = M 12 q ∧ M' 14 q = M 14 q ∧ M' 22 q = M 22 q ∧ M' 23 q = M 23 q ∧ M' 24 q = M 24 q ∧ (M' 13 q = M 13 q ∨ (M 13 q < 0 ∧ (m : Int) ≤ M' 13 q))) ∧
  (∀ q, q < 8 * m → M' 15 q = M 15 q ∧ M' 16 q = M 16 q ∧ M' 17 q = M 17 q) ∧
  (∀ q, q < 4 * m → M' 21 q = M 21 q) ∧
  (∀ q, q < 6 * m → M' 19 q = M 19 q ∧ M' 20 q = M 20 q) ∧
  (∀ id k, ¬ (10 ≤ id ∧ id ≤ 17) → ¬ (19 ≤ id ∧ id ≤ 24) → ¬ (37 + m ≤ id ∧ id ≤ 76) → M' id k = M id k) ∧
  (∀ k, k ≠ 0 → M' 10 k = M 10 k)
theorem w_kp_rf (M : EM) (m : Nat) : w_kp M M m := ⟨fun _ _ => ⟨rfl, rfl, rfl, rfl, rfl, rfl, Or.inl rfl⟩, fun _ _ => ⟨rfl, rfl, rfl⟩, fun _ _ => rfl, fun _ _ => ⟨rfl, rfl⟩, fun _ _ _ _ _ => rfl, fun _ _ => rfl⟩
theorem w_kp_tr {M M1 M2 : EM} {m m' : Nat} (hm : m ≤ m') (h : w_kp M M1 m) (k : w_kp M1 M2 m') : w_kp M M2 m := by
  obtain ⟨a1, a2, a3, a4, a5, a6⟩ := h
  obtain ⟨b1, b2, b3, b4, b5, b6⟩ := k
  refine ⟨fun q hq => ?_, fun q hq => ?_, fun q hq => ?_, fun q hq => ?_, fun id k h1 h2 h3 => ?_, fun k hk => ?_⟩
  · obtain ⟨c1, c2, c3, c4, c5, c6, c7⟩ := a1 q hq
    obtain ⟨d1, d2, d3, d4, d5, d6, d7⟩ := b1 q (by omega)
    exact ⟨d1.trans c1, d2.trans c2, d3.trans c3, d4.trans c4, d5.trans c5, d6.trans c6, by omega⟩
  · obtain ⟨c1, c2, c3⟩ := a2 q hq
    obtain ⟨d1, d2, d3⟩ := b2 q (by omega)
    exact ⟨d1.trans c1, d2.trans c2, d3.trans c3⟩
  · exact (b3 q (by omega)).trans (a3 q hq)
  · exact ⟨(b4 q (by omega)).1.trans (a4 q hq).1, (b4 q (by omega)).2.trans (a4 q hq).2⟩
  · exact (b5 id k h1 h2 (by omega)).trans (a5 id k h1 h2 h3)
  · exact (b6 k hk).trans (a6 k hk)
theorem w_js_kp {M0 M : EM} {p i f : Nat} {K t : Int} (hp : p < 40) (h : w_js M0 M p K t f i) (hj : w_jn M0 p K f i) : w_kp M0 M p := by
  obtain ⟨a1, a2, a3, a4, a5, a6, a7, a8, a9, a10, a11, a12, a13⟩ := h
  refine ⟨fun q hq => ?_, fun q hq => a9 q (by omega), fun q hq => a10 q (by omega), fun q hq => ⟨a13 _ _ (by omega) (by omega) (by omega) (by omega), a13 _ _ (by omega) (by omega) (by omega) (by omega)⟩, fun id k h1 h2 h3 => a13 _ _ (by omega) (by omega) (by omega) (by omega), fun k hk => a13 _ _ (by omega) (by omega) (by omega) (by omega)⟩
  obtain ⟨c1, c2, c3, c4, c5, c6⟩ := a8 q (by omega)
  refine ⟨c1, c2, c3, c4, c5, c6, ?_⟩
  by_cases e : ∃ j, j < i ∧ M0 167 (f + j) = (q : Int)
  · obtain ⟨j, hj1, hj2⟩ := e
    have d := (a6 j hj1).2.2.2
    have g := (hj j hj1).2.2.1
    rw [hj2, Int.toNat_natCast] at d g
    exact Or.inr ⟨g, by omega⟩
  · exact Or.inl (a7 q (by omega) (fun j hj1 hj2 => e ⟨j, hj1, hj2⟩))
theorem w_cs_kp {N M : EM} {p i f : Nat} (h : w_cs N M p f i) : w_kp N M p := by
  have z : ∀ id k, ¬ ((id = 19 ∨ id = 20) ∧ 6 * p ≤ k ∧ k < 6 * p + 6) → M id k = N id k := h.1
  exact ⟨fun q hq => ⟨z _ _ (by omega), z _ _ (by omega), z _ _ (by omega), z _ _ (by omega), z _ _ (by omega), z _ _ (by omega), Or.inl (z _ _ (by omega))⟩, fun q hq => ⟨z _ _ (by omega), z _ _ (by omega), z _ _ (by omega)⟩, fun q hq => z _ _ (by omega), fun q hq => ⟨z _ _ (by omega), z _ _ (by omega)⟩, fun id k h1 h2 h3 => z _ _ (by omega), fun k hk => z _ _ (by omega)⟩
theorem w_to_kp {M M' : EM} {p f n : Nat} {c g : Int} (h : w_to M M' p c g f n) (ht : w_tl M p c f n) : w_kp M M' p ∧ M' 10 0 = (p : Int) + 1 := by
  obtain ⟨hp, ht⟩ := ht
  obtain ⟨h1, h2, h3, h4⟩ := h
  rcases ht with ⟨e, b1, b2, b3⟩ | ⟨e, b1, b2⟩ | ⟨e, b1, b2⟩ | ⟨e1, e2, e3, b2⟩
  · obtain ⟨N, k1, k2⟩ := h1 e
    refine ⟨w_kp_tr (Nat.le_refl _) (w_js_kp hp k1 (fun j hj => absurd hj (Nat.not_lt_zero _))) (w_cs_kp k2), ?_⟩
    rw [k2.1 _ _ (by omega)]
    exact k1.2.2.2.2.1
  · have k := h2 e
    exact ⟨w_js_kp hp k b2, k.2.2.2.2.1⟩
  · have k := h3 e
    exact ⟨w_js_kp hp k b2, k.2.2.2.2.1⟩
  · have k := h4 e1 e2 e3
    exact ⟨w_js_kp hp k b2, k.2.2.2.2.1⟩
theorem w_68 {p f n : Nat} {c g : Int} {s : Nat} {M : EM} (h0 : M 10 0 = p) (hs : s < 120) (h1 : M 165 s = f) (h2 : M 165 (s + 1) = ((f + n : Nat) : Int)) (h3 : M 164 s = c) (h4 : M 166 s = g) (hf : f + n ≤ 120) (hb : c ≠ 99 → c ≠ 114 → c ≠ 102 → n ≤ 8) : ∃ r M', E_C 68 [162, 9, (s : Int)] M = some (r, M') ∧ w_kp M M' p ∧ ((r = 1 ∧ w_tl M p c f n ∧ w_to M M' p c g f n) ∨ (r = 0 ∧ ¬ w_tl M p c f n)) := by
  have s0 : E_C 68 [162, 9, (s : Int)] M = e_tv E_C (E_V 68) e_t68_0 [162, 9, (s : Int), 0, 0, 0] M := r_ent (u := 68) (as := [162, 9, (s : Int)]) (M := M) (decide_eq_true c_rd5)
  rw [s0]
  unfold e_t68_0
  have b1 : s < 121 := by omega
  have b2 : s + 1 < 121 := by omega
  have b3 : (s : Int) + 1 = ((s + 1 : Nat) : Int) := by omega
  have b4 : ((f + n : Nat) : Int) - (f : Int) = (n : Int) := by omega
  obtain ⟨m, hm⟩ : ∃ m : Nat, m = n / 2 := ⟨_, rfl⟩
  have hm1 : 2 * m ≤ n ∧ n ≤ 2 * m + 1 := by omega
  have td : (n : Int).tdiv 2 = (m : Int) := by
    rw [Int.tdiv_eq_ediv_of_nonneg (by omega)]
    omega
  have td' : (n : Int) / 2 = (m : Int) := by omega
  have b6 : f + 2 * m ≤ 120 := by
    clear hm td td'
    omega
  have w3 : e_w (m : Int) = (m : Int) := by
    clear hm td td'
    exact a_w_id (by omega) (by omega)
  have w1 : e_w ((s : Int) + 1) = (s : Int) + 1 := by
    clear hm td td'
    exact a_w_id (by omega) (by omega)
  have w2 : e_w (((f + n : Nat) : Int) - (f : Int)) = (n : Int) := by
    clear hm td td'
    exact (a_w_id (by omega) (by omega)).trans b4
  have t1 := w_atN (a := 165) (i := (s : Int)) (n := 121) (by decide +kernel) (j := s) rfl b1 M
  have t2 := w_atN (a := 165) (i := (s : Int) + 1) (n := 121) (by decide +kernel) (j := s + 1) b3 b2 M
  have t3 := w_atN (a := 164) (i := (s : Int)) (n := 120) (by decide +kernel) (j := s) rfl hs M
  have t4 := w_atN (a := 166) (i := (s : Int)) (n := 120) (by decide +kernel) (j := s) rfl hs M
  have t1' : E_C 146 [165, (s : Int)] M = some ((f : Int), M) := t1.trans (congrArg some (congrArg (·, M) h1))
  have t2' : E_C 146 [165, (s : Int) + 1] M = some (((f + n : Nat) : Int), M) := t2.trans (congrArg some (congrArg (·, M) h2))
  have t3' : E_C 146 [164, (s : Int)] M = some (c, M) := t3.trans (congrArg some (congrArg (·, M) h3))
  have t4' : E_C 146 [166, (s : Int)] M = some (g, M) := t4.trans (congrArg some (congrArg (·, M) h4))
  clear t1 t2 t3 t4
  unfold w_tl w_to
  rw [← hm]
  clear hm
  by_cases q0 : 40 > p
  · have q0' : ¬ ((40 : Int) ≤ (p : Int)) := by omega
    by_cases c1 : c = 99
    · subst c1
      obtain ⟨k1, k2⟩ := w_69 (f := f) (n := m) q0 b6 h0
      by_cases q1 : 2 ≤ m ∧ m ≤ 6
      · obtain ⟨r, N, M', k3, k4, k5, k6⟩ := k2 q1
        refine ⟨r, M', ?_, w_kp_tr (Nat.le_refl _) (w_js_kp q0 k4 (fun j hj => absurd hj (Nat.not_lt_zero _))) (w_cs_kp k5), ?_⟩
        · generalize ((f + n : Nat) : Int) = y at t2' w2
          simp [e_tv, e_ev, e_sv, e_b1, e_b2, x_o1, x_o2, w_H0, w_P0, w_aB, w_aA, w_aC, h0, q0', t1', t2', t3', w1, w2, w3, td, td', k3]
        · rcases k6 with ⟨e1, e2⟩ | ⟨e1, e2⟩
          · exact Or.inl ⟨e1, ⟨q0, Or.inl ⟨rfl, q1.1, q1.2, e2⟩⟩, fun _ => ⟨N, k4, k5⟩, fun h => absurd h (by decide), fun h => absurd h (by decide), fun h => absurd rfl h⟩
          · exact Or.inr ⟨e1, fun h => by
              rcases h.2 with h | h | h | h
              · exact e2 h.2.2.2
              · exact absurd h.1 (by decide)
              · exact absurd h.1 (by decide)
              · exact absurd rfl h.1⟩
      · have k3 := k1 q1
        refine ⟨0, M, ?_, w_kp_rf _ _, Or.inr ⟨rfl, fun h => ?_⟩⟩
        · generalize ((f + n : Nat) : Int) = y at t2' w2
          simp [e_tv, e_ev, e_sv, e_b1, e_b2, x_o1, x_o2, w_H0, w_P0, w_aB, w_aA, w_aC, h0, q0', t1', t2', t3', w1, w2, w3, td, td', k3]
        · rcases h.2 with h | h | h | h
          · exact q1 ⟨h.2.1, h.2.2.1⟩
          · exact absurd h.1 (by decide)
          · exact absurd h.1 (by decide)
          · exact absurd rfl h.1
    by_cases c2 : c = 114
    · subst c2
      by_cases q1 : 8 ≥ n
      · obtain ⟨r, M', i', k1, k2, k3, k4⟩ := w_70 (K := 1) (t := g) q0 q1 hf h0
        have q1' : (n : Int) ≤ 8 := by omega
        have q1_n : ¬ ((8 : Int) < (n : Int)) := by omega
        refine ⟨r, M', ?_, w_js_kp q0 k2 k3, ?_⟩
        · generalize ((f + n : Nat) : Int) = y at t2' w2
          rcases k4 with ⟨e1, e2⟩ | ⟨e1, e2, e3⟩
          · subst e1
            simp [e_tv, e_ev, e_sv, e_b1, e_b2, x_o1, x_o2, w_H0, w_P0, w_aB, w_aA, w_aC, h0, q0', t1', t2', t3', t4', w1, w2, k1, q1', q1_n]
          · subst e1
            simp [e_tv, e_ev, e_sv, e_b1, e_b2, x_o1, x_o2, w_H0, w_P0, w_aB, w_aA, w_aC, h0, q0', t1', t2', t3', t4', w1, w2, k1, q1', q1_n]
        · rcases k4 with ⟨e1, e2⟩ | ⟨e1, e2, e3⟩
          · subst e2
            exact Or.inl ⟨e1, ⟨q0, Or.inr (Or.inl ⟨rfl, q1, k3⟩)⟩, fun h => absurd h (by decide), fun _ => k2, fun h => absurd h (by decide), fun _ h => absurd rfl h⟩
          · exact Or.inr ⟨e1, fun h => by
              rcases h.2 with h | h | h | h
              · exact absurd h.1 (by decide)
              · exact e3 (h.2.2 i' e2)
              · exact absurd h.1 (by decide)
              · exact absurd rfl h.2.1⟩
      · refine ⟨0, M, ?_, w_kp_rf _ _, Or.inr ⟨rfl, fun h => ?_⟩⟩
        · have q1' : ¬ ((n : Int) ≤ 8) := by omega
          have q1_n : (8 : Int) < (n : Int) := by omega
          generalize ((f + n : Nat) : Int) = y at t2' w2
          simp [e_tv, e_ev, e_sv, e_b1, e_b2, x_o1, x_o2, w_H0, w_P0, w_aB, w_aA, w_aC, h0, q0', t1', t2', t3', w1, w2, q1', q1_n]
        · rcases h.2 with h | h | h | h
          · exact absurd h.1 (by decide)
          · exact q1 h.2.1
          · exact absurd h.1 (by decide)
          · exact absurd rfl h.2.1
    by_cases c3 : c = 102
    · subst c3
      by_cases q1 : 6 ≥ n
      · obtain ⟨r, M', i', k1, k2, k3, k4⟩ := w_70 (K := 2) (t := n) q0 (by omega) hf h0
        have q1' : (n : Int) ≤ 6 := by omega
        have q1_n : ¬ ((6 : Int) < (n : Int)) := by omega
        refine ⟨r, M', ?_, w_js_kp q0 k2 k3, ?_⟩
        · generalize ((f + n : Nat) : Int) = y at t2' w2
          rcases k4 with ⟨e1, e2⟩ | ⟨e1, e2, e3⟩
          · subst e1
            simp [e_tv, e_ev, e_sv, e_b1, e_b2, x_o1, x_o2, w_H0, w_P0, w_aB, w_aA, w_aC, h0, q0', t1', t2', t3', w1, w2, k1, q1', q1_n]
          · subst e1
            simp [e_tv, e_ev, e_sv, e_b1, e_b2, x_o1, x_o2, w_H0, w_P0, w_aB, w_aA, w_aC, h0, q0', t1', t2', t3', w1, w2, k1, q1', q1_n]
        · rcases k4 with ⟨e1, e2⟩ | ⟨e1, e2, e3⟩
          · subst e2
            exact Or.inl ⟨e1, ⟨q0, Or.inr (Or.inr (Or.inl ⟨rfl, q1, k3⟩))⟩, fun h => absurd h (by decide), fun h => absurd h (by decide), fun _ => k2, fun _ _ h => absurd rfl h⟩
          · exact Or.inr ⟨e1, fun h => by
              rcases h.2 with h | h | h | h
              · exact absurd h.1 (by decide)
              · exact absurd h.1 (by decide)
              · exact e3 (h.2.2 i' e2)
              · exact absurd rfl h.2.2.1⟩
      · refine ⟨0, M, ?_, w_kp_rf _ _, Or.inr ⟨rfl, fun h => ?_⟩⟩
        · have q1' : ¬ ((n : Int) ≤ 6) := by omega
          have q1_n : (6 : Int) < (n : Int) := by omega
          generalize ((f + n : Nat) : Int) = y at t2' w2
          simp [e_tv, e_ev, e_sv, e_b1, e_b2, x_o1, x_o2, w_H0, w_P0, w_aB, w_aA, w_aC, h0, q0', t1', t2', t3', w1, w2, q1', q1_n]
        · rcases h.2 with h | h | h | h
          · exact absurd h.1 (by decide)
          · exact absurd h.1 (by decide)
          · exact q1 h.2.1
          · exact absurd rfl h.2.2.1
    · obtain ⟨r, M', i', k1, k2, k3, k4⟩ := w_70 (K := 3) (t := 1) q0 (hb c1 c2 c3) hf h0
      refine ⟨r, M', ?_, w_js_kp q0 k2 k3, ?_⟩
      · generalize ((f + n : Nat) : Int) = y at t2' w2
        simp [e_tv, e_ev, e_sv, e_b1, e_b2, x_o1, x_o2, w_H0, w_P0, w_aB, w_aA, w_aC, h0, q0', t1', t2', t3', w1, w2, k1, c1, c2, c3]
      · rcases k4 with ⟨e1, e2⟩ | ⟨e1, e2, e3⟩
        · subst e2
          exact Or.inl ⟨e1, ⟨q0, Or.inr (Or.inr (Or.inr ⟨c1, c2, c3, k3⟩))⟩, fun h => absurd h c1, fun h => absurd h c2, fun h => absurd h c3, fun _ _ _ => k2⟩
        · exact Or.inr ⟨e1, fun h => by
            rcases h.2 with h | h | h | h
            · exact absurd h.1 c1
            · exact absurd h.1 c2
            · exact absurd h.1 c3
            · exact e3 (h.2.2.2 i' e2)⟩
  · refine ⟨0, M, ?_, w_kp_rf _ _, Or.inr ⟨rfl, fun h => q0 h.1⟩⟩
    have q0' : (40 : Int) ≤ (p : Int) := by omega
    simp [e_tv, e_ev, e_sv, e_b1, e_b2, x_o1, x_o2, w_H0, w_P0, h0, q0']
