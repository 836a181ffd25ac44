/-! count: both say the same -/
theorem h_counts {w r1 r2 : Int} {M M1 M2 : EM} (hB : h_B M 0 (r_G M)) (hC : h_C M 0 (r_G M)) (hR : p_rel M (M 193)) (hs : M 26 6 = r_G M 1200) (k1 : E_C 138 [8, w] M = some (r1, M1)) (k2 : E_C 257 [192, w] M1 = some (r2, M2)) : r1 = r2 ∧ M1 = M ∧ M2 = M := by
  have fin : ∀ r r' : Int, r = r' → E_C 138 [8, w] M = some (r, M) → E_C 257 [192, w] M = some (r', M) → r1 = r2 ∧ M1 = M ∧ M2 = M := fun r r' e t1 t2 => by
    obtain ⟨a1, a2⟩ := Prod.mk.inj (Option.some.inj (k1.symm.trans t1))
    rw [a2] at k2
    obtain ⟨b1, b2⟩ := Prod.mk.inj (Option.some.inj (k2.symm.trans t2))
    exact ⟨a1.trans (e.trans b1.symm), a2, b2⟩
  obtain ⟨n, hn⟩ : ∃ n : Nat, r_G M 1198 = n := ⟨(r_G M 1198).toNat, by have := hB.2.1; omega⟩
  have h40 : n ≤ 40 := by have := hB.2.1; omega
  have h10 : M 10 0 = n := hB.1.trans hn
  have hb : ∀ j : Nat, j < n → M 11 j = r_G M (28 * (j : Int)) := fun j hj => (hB.2.2 j (by omega)).1
  by_cases c0 : w < 0 ∨ 9 ≤ w
  · exact fin _ _ rfl (h_138n (by omega)) (h_257n' c0)
  · by_cases c1 : 1 ≤ w ∧ w ≤ 4
    · refine fin _ _ (h_cnt_cg n 0 (fun j _ hj => ?_)) (h_138_a c1 (h_56 h10 h40)) (h_257_a c1 hn h40)
      rw [hb j (by omega)]
    · have h9 : w = 0 ∨ w = 5 ∨ w = 6 ∨ w = 7 ∨ w = 8 := by omega
      rcases h9 with rfl | rfl | rfl | rfl | rfl
      · exact fin _ _ hB.1 h_138_0 h_257_0
      · refine fin _ _ (h_cnt_cg n 0 (fun j _ hj => ?_)) (h_138_5 (h_39 h10 h40)) (h_257_5 hn h40)
        have hj' : j < n := by omega
        show (decide (M 11 j = 0) && decide (M 22 j ≠ 0)) = (decide (r_G M (28 * (j : Int)) = 0) && decide (r_G M (28 * (j : Int) + 19) = 1))
        rw [hb j hj']
        by_cases e : r_G M (28 * (j : Int)) = 0
        · obtain ⟨-, ⟨d1, d2⟩, -⟩ := hC j (by rw [hn]; exact Int.ofNat_lt.mpr hj') e
          have d1 : M 22 j = r_G M (28 * (j : Int) + 19) := d1
          rw [d1]
          rcases d2 with d2 | d2
          · rw [d2]; rfl
          · rw [d2]; rfl
        · rw [decide_eq_false e, Bool.false_and, Bool.false_and]
      · refine fin _ _ (h_cnt_cg 10 0 (fun j _ hj => ?_)) (h_138_6 h_73) h_257_6
        have e : M 29 j = M 193 (1120 + 3 * j + 2) := hR _ (p_inW j (by omega)).2.2
        have e2 : r_G M (1120 + 3 * (j : Int) + 2) = M 193 (1120 + 3 * j + 2) := congrArg (M 193) (by omega)
        rw [e2, ← e]
      · exact fin _ _ hs h_138_7 h_257_7
      · exact fin _ _ (hR _ p_inR) h_138_8 h_257_8
