section YL
variable {b : Nat → Int} {n k k' : Nat} {M M' : EM}
theorem y_89 {x1 : Int} : ∀ (m k : Nat) (M : EM), n - k ≤ m → y_B b n k M → w_A b k → y_rd b n k → w_T b k 3 = 114 → w_T b k 5 = 0 → y_O b n k M (E_V 183 89 [192, x1] M) (y_Ps b n k) := by
  intro m
  induction m with
  | zero =>
    intro k M hm hB hA rd h3 h5
    obtain ⟨t1, t2⟩ := y_takes (c := 32) hB (by decide)
    have hk := hB.2.2.1
    have hn : y_s b n k ≠ 32 := fun e => by have := (y_lt e (by decide)).1; omega
    have k0 := t2 hn
    obtain ⟨r, M', k', k1, c1⟩ := y_132 (x1 := x1) hB hA rd h5 (by omega) (Or.inr hn)
    refine ⟨r, M', k', ?_, c1⟩
    rw [E_V_eq]
    show e_tv E_C (E_V 183) e_t183_89 [192, x1] M = _
    unfold e_t183_89
    simp [e_tv, e_ev, e_sv, e_b1, e_b2, x_o1, x_o2, k0, k1]
  | succ m ih =>
    intro k M hm hB hA rd h3 h5
    obtain ⟨t1, t2⟩ := y_takes (c := 32) hB (by decide)
    by_cases q : y_s b n k = 32
    · obtain ⟨g1, l1, e1, tt1, B1⟩ := t1 q
      obtain ⟨a1, a2, a3, a4, a5, a6, a7, a8⟩ := y_spc hA rd l1 e1 (by omega) (by omega)
      obtain ⟨r, M2, k2, g2, tt2, B2, c1, c2, c3⟩ := y_item B1 a1 a2 (a3.trans h3) (a5.trans h5)
      rcases c3 with ⟨e, p1, p2, p3, p4⟩ | ⟨e, c3⟩
      · subst e
        obtain ⟨r, M3, k3, g3, tt3, B3, d1, d2, d3⟩ := ih k2 M2 (by omega) B2 c2 p1 p2 p3
        refine ⟨r, M3, k3, ?_, r_tt_tr tt1 (r_tt_tr tt2 tt3), B3, by omega, d2, ?_⟩
        · rw [E_V_eq]
          show e_tv E_C (E_V 183) e_t183_89 [192, x1] M = _
          unfold e_t183_89
          simp [e_tv, e_ev, e_sv, e_b1, e_b2, x_o1, x_o2, g1, g2, g3]
        · rcases d3 with ⟨e, d3, d4⟩ | d3
          · exact Or.inl ⟨e, d3, by omega⟩
          · exact Or.inr d3
      · subst e
        refine ⟨0, M2, k2, ?_, r_tt_tr tt1 tt2, B2, by omega, c2, Or.inr ⟨rfl, c3⟩⟩
        rw [E_V_eq]
        show e_tv E_C (E_V 183) e_t183_89 [192, x1] M = _
        unfold e_t183_89
        simp [e_tv, e_ev, e_sv, e_b1, e_b2, x_o1, x_o2, g1, g2]
    · have k0 := t2 q
      obtain ⟨r, M', k', k1, c1⟩ := y_132 (x1 := x1) hB hA rd h5 (by omega) (Or.inr q)
      refine ⟨r, M', k', ?_, c1⟩
      rw [E_V_eq]
      show e_tv E_C (E_V 183) e_t183_89 [192, x1] M = _
      unfold e_t183_89
      simp [e_tv, e_ev, e_sv, e_b1, e_b2, x_o1, x_o2, k0, k1]
end YL
