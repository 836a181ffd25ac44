/-- i points of the CELL are laid -/
def w_cs (N M : EM) (p f i : Nat) : Prop := (∀ id k, ¬ ((id = 19 ∨ id = 20) ∧ 6 * p ≤ k ∧ k < 6 * p + 6) → M id k = N id k) ∧ (∀ j, j < i → M 19 (6 * p + j) = N 167 (f + 2 * j) ∧ M 20 (6 * p + j) = N 167 (f + 2 * j + 1))
theorem w_csn {N M : EM} {p f i : Nat} (hi : i < 6) (h : w_cs N M p f i) : w_cs N (e_up (e_up M 19 (6 * p + i) (N 167 (f + 2 * i))) 20 (6 * p + i) (N 167 (f + 2 * i + 1))) p f (i + 1) := by
  obtain ⟨h1, h2⟩ := h
  refine ⟨fun id k hk => ?_, fun j hj => ?_⟩
  · rw [c_up_n (by omega), c_up_n (by omega)]
    exact h1 id k hk
  · by_cases e : j = i
    · subst e
      refine ⟨?_, c_up_s⟩
      rw [c_up_n (fun q => absurd q.1 (by decide))]
      exact c_up_s
    · obtain ⟨g1, g2⟩ := h2 j (by omega)
      refine ⟨?_, ?_⟩
      · rw [c_up_n (by omega), c_up_n (by omega)]; exact g1
      · rw [c_up_n (by omega), c_up_n (by omega)]; exact g2
theorem w_69l {p f n : Nat} (hp : p < 40) (hn : n ≤ 6) (hf : f + 2 * n ≤ 120) (N : EM) : ∀ (m i : Nat) (M : EM), i + m = n → w_cs N M p f i → ∃ M', E_V 69 24 [162, 9, (f : Int), (n : Int), (p : Int), (i : Int)] M = E_V 69 24 [162, 9, (f : Int), (n : Int), (p : Int), (n : Int)] M' ∧ w_cs N M' p f n := by
  intro m
  induction m with
  | zero =>
    intro i M hm hs
    have e : i = n := by omega
    subst e
    exact ⟨M, rfl, hs⟩
  | succ m ih =>
    intro i M hm hs
    obtain ⟨M', k1, c1⟩ := ih (i + 1) _ (by omega) (w_csn (by omega) hs)
    refine ⟨M', ?_, c1⟩
    refine Eq.trans ?_ k1
    have q : (i : Int) < (n : Int) := by omega
    have a1 : (p : Int) * 6 + (i : Int) = ((6 * p + i : Nat) : Int) := by omega
    have a2 : 6 * p + i < 240 := by omega
    have b1 : (f : Int) + 2 * (i : Int) = ((f + 2 * i : Nat) : Int) := by omega
    have b2 : f + 2 * i < 120 := by omega
    have b3 : (f : Int) + 2 * (i : Int) + 1 = ((f + 2 * i + 1 : Nat) : Int) := by omega
    have b4 : f + 2 * i + 1 < 120 := by omega
    have w1 : e_w ((p : Int) * 6) = (p : Int) * 6 := a_w_id (by omega) (by omega)
    have w2 : e_w ((p : Int) * 6 + (i : Int)) = (p : Int) * 6 + (i : Int) := a_w_id (by omega) (by omega)
    have w3 : e_w (2 * (i : Int)) = 2 * (i : Int) := a_w_id (by omega) (by omega)
    have w4 : e_w ((f : Int) + 2 * (i : Int)) = (f : Int) + 2 * (i : Int) := a_w_id (by omega) (by omega)
    have w5 : e_w ((f : Int) + 2 * (i : Int) + 1) = (f : Int) + 2 * (i : Int) + 1 := a_w_id (by omega) (by omega)
    have w6 : e_w ((i : Int) + 1) = (i : Int) + 1 := a_w_id (by omega) (by omega)
    have l1 := fun v M => w_layN (a := 19) (i := (p : Int) * 6 + (i : Int)) (n := 240) (by decide +kernel) (j := 6 * p + i) a1 a2 v M
    have l2 := fun v M => w_layN (a := 20) (i := (p : Int) * 6 + (i : Int)) (n := 240) (by decide +kernel) (j := 6 * p + i) a1 a2 v M
    have t1 := w_atN (a := 167) (i := (f : Int) + 2 * (i : Int)) (n := 120) (by decide +kernel) (j := f + 2 * i) b1 b2 M
    have t2 := fun v => w_atN (a := 167) (i := (f : Int) + 2 * (i : Int) + 1) (n := 120) (by decide +kernel) (j := f + 2 * i + 1) b3 b4 (e_up M 19 (6 * p + i) v)
    have z1 : M 167 (f + 2 * i) = N 167 (f + 2 * i) := hs.1 _ _ (by omega)
    have z2 : ∀ v, (e_up M 19 (6 * p + i) v) 167 (f + 2 * i + 1) = N 167 (f + 2 * i + 1) := fun v => (c_up_n (fun q => absurd q.1 (by decide))).trans (hs.1 _ _ (by omega))
    have t1' : E_C 146 [167, (f : Int) + 2 * (i : Int)] M = some (N 167 (f + 2 * i), M) := t1.trans (congrArg some (congrArg (·, M) z1))
    have t2' : ∀ v, E_C 146 [167, (f : Int) + 2 * (i : Int) + 1] (e_up M 19 (6 * p + i) v) = some (N 167 (f + 2 * i + 1), e_up M 19 (6 * p + i) v) := fun v => (t2 v).trans (congrArg some (congrArg (·, e_up M 19 (6 * p + i) v) (z2 v)))
    rw [E_V_eq]
    show e_tv E_C (E_V 69) e_t69_24 [162, 9, (f : Int), (n : Int), (p : Int), (i : Int)] M = _
    unfold e_t69_24
    simp [e_tv, e_ev, e_sv, e_b1, e_b2, x_o1, x_o2, q, w_H1, w_C0, w_C1, w_aD, w1, w2, w3, w4, w5, w6, l1, l2, t1', t2']
/-- the numbers told make a CURVE -/
def w_cn (M : EM) (f m : Nat) : Prop := M 167 f = 0 ∧ M 167 (f + 2 * m) ≤ 60 ∧ M 167 (f + 1) ≠ 0 ∧ M 167 (f + 2 * m + 1) = 0 ∧ ∀ j, j < m → M 167 (f + 2 * j) < M 167 (f + 2 * (j + 1)) ∧ M 167 (f + 2 * (j + 1) + 1) < M 167 (f + 2 * j + 1)
theorem w_cvn {N M : EM} {p f m : Nat} (h : w_cs N M p f (m + 1)) : w_cv M p m ↔ w_cn N f m := by
  obtain ⟨h1, h2⟩ := h
  obtain ⟨a1, a2⟩ := h2 0 (by omega)
  obtain ⟨b1, b2⟩ := h2 m (by omega)
  have a1' : M 19 (6 * p) = N 167 f := a1
  have a2' : M 20 (6 * p) = N 167 (f + 1) := a2
  unfold w_cv w_cn w_ri
  rw [a1', a2', b1, b2]
  have e : (∀ j, j < m → M 19 (6 * p + j) < M 19 (6 * p + (j + 1)) ∧ M 20 (6 * p + (j + 1)) < M 20 (6 * p + j)) ↔ (∀ j, j < m → N 167 (f + 2 * j) < N 167 (f + 2 * (j + 1)) ∧ N 167 (f + 2 * (j + 1) + 1) < N 167 (f + 2 * j + 1)) := by
    refine ⟨fun h j hj => ?_, fun h j hj => ?_⟩
    · have := h j hj
      rw [(h2 j (by omega)).1, (h2 j (by omega)).2, (h2 (j + 1) (by omega)).1, (h2 (j + 1) (by omega)).2] at this
      exact this
    · rw [(h2 j (by omega)).1, (h2 j (by omega)).2, (h2 (j + 1) (by omega)).1, (h2 (j + 1) (by omega)).2]
      exact h j hj
  rw [e]
theorem w_69 {p f n : Nat} {M : EM} (hp : p < 40) (hf : f + 2 * n ≤ 120) (h0 : M 10 0 = p) : (¬ (2 ≤ n ∧ n ≤ 6) → E_C 69 [162, 9, (f : Int), (n : Int)] M = some (0, M)) ∧ (2 ≤ n ∧ n ≤ 6 → ∃ r N M', E_C 69 [162, 9, (f : Int), (n : Int)] M = some (r, M') ∧ w_js M N p 0 n f 0 ∧ w_cs N M' p f n ∧ ((r = 1 ∧ w_cn M f (n - 1)) ∨ (r = 0 ∧ ¬ w_cn M f (n - 1)))) := by
  have s0 : E_C 69 [162, 9, (f : Int), (n : Int)] M = e_tv E_C (E_V 69) e_t69_0 [162, 9, (f : Int), (n : Int), 0, 0] M := r_ent (u := 69) (as := [162, 9, (f : Int), (n : Int)]) (M := M) (decide_eq_true c_rd5)
  rw [s0]
  unfold e_t69_0
  refine ⟨fun h => ?_, fun h => ?_⟩
  · rcases x_le 2 (n : Int) with ⟨a1, a1_n⟩ | ⟨a1, a1_n⟩
    · have a2 : (6 : Int) < (n : Int) := by omega
      simp [e_tv, e_ev, e_sv, e_b1, e_b2, x_o1, x_o2, a1, a1_n, a2]
      try omega
    · simp [e_tv, e_ev, e_sv, e_b1, e_b2, x_o1, x_o2, a1, a1_n]
      try omega
  · obtain ⟨m, rfl⟩ : ∃ m, n = m + 1 := ⟨n - 1, by omega⟩
    have k2 := w_49 (k := 0) (t := ((m + 1 : Nat) : Int)) h0 hp
    have J := w_js0 (M0 := M) (K := 0) (t := ((m + 1 : Nat) : Int)) (f := f) hp
    obtain ⟨M', k1, c1⟩ := w_69l hp (n := m + 1) (by omega) hf (w_b49 M p 0 ((m + 1 : Nat) : Int)) (m + 1) 0 (w_b49 M p 0 ((m + 1 : Nat) : Int)) (by omega) ⟨fun _ _ _ => rfl, fun j hj => absurd hj (Nat.not_lt_zero _)⟩
    have k1' : E_V 69 24 [162, 9, (f : Int), ((m + 1 : Nat) : Int), (p : Int), 0] (w_b49 M p 0 ((m + 1 : Nat) : Int)) = E_V 69 24 [162, 9, (f : Int), ((m + 1 : Nat) : Int), (p : Int), ((m + 1 : Nat) : Int)] M' := k1
    have e1 : ∀ k, w_b49 M p 0 ((m + 1 : Nat) : Int) 167 k = M 167 k := fun k => J.2.2.2.2.2.2.2.2.2.2.2.2 167 k (by omega) (by omega) (by omega) (by omega)
    have cc : w_cv M' p m ↔ w_cn M f m := (w_cvn c1).trans (by unfold w_cn; simp only [e1])
    have k3 := w_36 (p := p) (m := m) (M := M') hp (by omega)
    have a1 : (2 : Int) ≤ ((m + 1 : Nat) : Int) := by omega
    have a1_n : ¬ (((m + 1 : Nat) : Int) < 2) := by omega
    have a2 : ¬ ((6 : Int) < ((m + 1 : Nat) : Int)) := by omega
    have fin : ∀ r, E_C 36 [18, (p : Int), ((m + 1 : Nat) : Int)] M' = some (r, M') → e_tv E_C (E_V 69) e_t69_0 [162, 9, (f : Int), ((m + 1 : Nat) : Int), 0, 0] M = some (r, M') := by
      intro r hr
      have k4 : E_V 69 24 [162, 9, (f : Int), ((m + 1 : Nat) : Int), (p : Int), ((m + 1 : Nat) : Int)] M' = some (r, M') := by
        generalize ((m + 1 : Nat) : Int) = n at hr ⊢
        rw [E_V_eq]
        show e_tv E_C (E_V 69) e_t69_24 [162, 9, (f : Int), n, (p : Int), n] M' = _
        unfold e_t69_24
        simp [e_tv, e_ev, e_sv, e_b1, e_b2, x_o1, x_o2, w_H1, hr]
      rw [k4] at k1'
      unfold e_t69_0
      generalize ((m + 1 : Nat) : Int) = n at a1 a1_n a2 k2 k1' ⊢
      simp [e_tv, e_ev, e_sv, e_b1, e_b2, x_o1, x_o2, a1, a1_n, a2, k2, k1']
    by_cases c : w_cn M f m
    · exact ⟨1, _, M', fin 1 (k3.1 (cc.mpr c)), J, c1, Or.inl ⟨rfl, c⟩⟩
    · exact ⟨0, _, M', fin 0 (k3.2 (fun h => c (cc.mp h))), J, c1, Or.inr ⟨rfl, c⟩⟩

