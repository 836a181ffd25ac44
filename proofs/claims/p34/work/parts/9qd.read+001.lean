theorem w_readShape {h : Int} (hh : h ∈ a_SH) {M : EM} (hM : a_M M) (h0 : M 165 0 = 0) (hs : 0 ≤ M h.toNat 5 ∧ M h.toNat 5 ≤ 120) : ∃ r M', E_C 59 [162, h] M = some (r, M') ∧ w_RS (M (h + 1).toNat) (M h.toNat 5).toNat r M M' := by
  obtain ⟨s1, s2, s3, s4, s5, s6, s7⟩ := w_sh hh
  have g5 : ∀ M, e_gf 517 [h] M = some (M h.toNat 5) := fun M => c_gf s1 (by decide +kernel)
  have s0 : E_C 59 [162, h] M = e_tv E_C (E_V 59) e_t59_0 [162, h] M := r_ent (u := 59) (as := [162, h]) (M := M) (decide_eq_true c_rd5)
  obtain ⟨N, hN⟩ : ∃ N, N = e_up (e_up (e_up (e_up (e_up M 162 0 (M h.toNat 5)) 162 2 0) 162 7 0) 162 8 0) 162 1 0 := ⟨_, rfl⟩
  have fo : ∀ id i, id ≠ 162 → N id i = M id i := fun id i hi => by
    rw [hN]
    simp [e_up, hi]
  have K : w_K (M (h + 1).toNat) 0 N := by
    refine ⟨⟨?_, ?_, ?_, fun h => absurd rfl h⟩, fun j hj => absurd hj (Nat.not_lt_zero _), fun j hj z => ?_, fun j hj => absurd hj (Nat.not_lt_zero _)⟩
    · rw [hN]; simp [e_up, w_T]
    · rw [hN]; simp [e_up, w_T]
    · rw [hN]; simp [e_up, w_T]
    · have : j = 0 := by omega
      subst this
      refine ⟨?_, fun h => absurd h (Nat.lt_irrefl _)⟩
      rw [fo _ _ (by decide)]
      exact h0
  obtain ⟨r, M', k1, c1, c2, c3⟩ := w_rs28 hh (b := M (h + 1).toNat) (n := (M h.toNat 5).toNat) (by omega) (fun i => c_M32 hM (by omega) (by
    have : ∀ x ∈ a_SH, (x + 1).toNat ≠ e_OUT := by decide +kernel
    exact this h hh)) _ 0 N (Nat.zero_add _) (by rw [hN]; simp [e_up]; omega) (by rw [hN]; simp [e_up]) (fun i hi => fo _ _ (by omega)) (fun j hj => absurd hj (Nat.not_lt_zero _)) K
  refine ⟨r, M', ?_, fun id i hi => (c1 id i hi).trans (fo id i (by omega)), c2, c3⟩
  rw [s0]
  unfold e_t59_0
  have hN2 : e_up (e_up (e_up (e_up (e_up M 162 0 (M h.toNat 5)) 162 2 0) 162 7 0) 162 8 0) 162 1 0 = N := hN.symm
  simp [e_tv, e_ev, e_sv, e_b1, e_b2, x_o1, x_o2, w_p0, w_p1, w_p2, w_p7, w_p8, g5, hN2, k1]

