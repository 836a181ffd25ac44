def w_b49 (M : EM) (p : Nat) (k t : Int) : EM := w_b81 (w_b35 (w_b52 M p k t) p) (37 + p)
theorem w_49 {p : Nat} {k t : Int} {M : EM} (h0 : M 10 0 = p) (hp : p < 40) : E_C 49 [9, k, t] M = some ((p : Int), w_b49 M p k t) := by
  have s0 : E_C 49 [9, k, t] M = e_tv E_C (E_V 49) e_t49_0 [9, k, t, 0] M := r_ent (u := 49) (as := [9, k, t]) (M := M) (decide_eq_true (show e_isO 3 9 by decide +kernel))
  rw [s0]
  unfold e_t49_0 w_b49
  have k1 := w_52 (k := k) (t := t) h0 hp
  have k2 := w_35 hp (w_b52 M p k t)
  obtain ⟨s, hs⟩ : ∃ s : Nat, s = 37 + p := ⟨_, rfl⟩
  rw [← hs]
  have r1 : ∀ M, e_op 62 [25, (p : Int)] M = some (s : Int) := fun M => (p_rd25 hp M).1.trans (by rw [hs])
  have r2 := fun M => (p_len25 M).1
  have k3 := w_81 (s := s) (by omega) (w_b35 (w_b52 M p k t) p)
  have q1 : (0 : Int) ≤ (p : Int) := by omega
  have q1' : ¬ ((p : Int) < 0) := by omega
  have q2 : (p : Int) < 40 := by omega
  have q3 : ¬ (s : Int) = -1 := by omega
  simp [e_tv, e_ev, e_sv, e_b1, e_b2, x_o1, x_o2, w_H0, w_H1, w_H2, k1, k2, r1, r2, k3, q1, q1', q2, q3]

