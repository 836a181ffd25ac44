theorem w_70 {p f n : Nat} {K t : Int} {M : EM} (hp : p < 40) (hn : n ≤ 8) (hf : f + n ≤ 120) (h0 : M 10 0 = p) : ∃ r M' i', E_C 70 [162, 9, K, t, (f : Int), (n : Int)] M = some (r, M') ∧ w_js M M' p K t f i' ∧ w_jn M p K f i' ∧ ((r = 1 ∧ i' = n) ∨ (r = 0 ∧ i' < n ∧ ¬ w_j1 M p K f i')) := by
  have s0 : E_C 70 [162, 9, K, t, (f : Int), (n : Int)] M = e_tv E_C (E_V 70) e_t70_0 [162, 9, K, t, (f : Int), (n : Int), 0, 0] M := r_ent (u := 70) (as := [162, 9, K, t, (f : Int), (n : Int)]) (M := M) (decide_eq_true c_rd5)
  obtain ⟨r, M', i', k1, c1, c2, c3⟩ := w_70l (K := K) (t := t) hp hn hf M n 0 (w_b49 M p K t) (by omega) (fun j hj => absurd hj (Nat.not_lt_zero _)) (w_js0 hp)
  have k2 := w_49 (k := K) (t := t) h0 hp
  refine ⟨r, M', i', ?_, c1, c2, c3⟩
  rw [s0]
  unfold e_t70_0
  have k1' : E_V 70 12 [162, 9, K, t, (f : Int), (n : Int), (p : Int), (f : Int)] (w_b49 M p K t) = some (r, M') := k1
  simp [e_tv, e_ev, e_sv, e_b1, e_b2, x_o1, x_o2, k2, k1']

