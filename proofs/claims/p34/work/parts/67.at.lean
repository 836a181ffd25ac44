theorem c_at_eq (a i : Int) (M : EM) : E_C 146 [a, i] M = e_tv E_C (E_V 146) e_t146_0 [a, i] M := by
  unfold E_C
  rw [if_pos (show e_rok 146 [a, i] = true from rfl), E_V_eq]
  rfl
theorem c_at (a i : Int) (M : EM) (h : a = -1 ∨ (0 < a ∧ a.toNat < e_N ∧ (e_sh a.toNat).1 = 100)) : E_C 146 [a, i] M = some (if a ≠ -1 ∧ 0 ≤ i ∧ i < ((e_sh a.toNat).2 : Int) then M a.toNat i.toNat else 0, M) := by
  rw [c_at_eq]
  unfold e_t146_0
  by_cases ha : a = -1
  · subst ha
    simp [e_tv, e_ev, e_op, e_b1]
  · have hb := h.resolve_left ha
    obtain ⟨b1, b2, b3⟩ := hb
    have hne : a.toNat ≠ 0 := by omega
    have hsz : e_sz M a.toNat = (e_sh a.toNat).2 := if_neg hne
    by_cases h0 : 0 ≤ i
    · by_cases h1 : i < ((e_sh a.toNat).2 : Int)
      · have hin : e_in2 M 100 a i := ⟨by omega, b2, b3, h0, by rw [hsz]; omega⟩
        simp [e_tv, e_ev, e_op, e_b1, e_b2, ha, h0, h1, hsz, b1, b2, b3, Int.le_of_lt b1]
        rw [if_pos hin]
        rfl
      · simp [e_tv, e_ev, e_op, e_b1, e_b2, ha, h0, h1, hsz, b1, b2, b3, Int.le_of_lt b1]
    · simp [e_tv, e_ev, e_op, e_b1, e_b2, ha, h0, hsz, b1, b2, b3, Int.le_of_lt b1]
theorem a_at_ok {W : AW} {ids : List Int} {i : Int × Int × Bool} {v : AV} {as : List Int} {M : EM} (h : a_all a_at1 a_join ids = some v) (hg : a_gs [some (.inr ids), some (.inl i)] as) (hM : a_M M) : ∃ r M', E_C 146 as M = some (r, M') ∧ a_g v r ∧ a_M M' ∧ a_fr W M M' := by
  obtain ⟨a, j, rfl, ha, hj⟩ := a_gs_2 hg
  obtain ⟨w, w1, w2⟩ := a_all_ok h a ha
  unfold a_at1 at w1
  split at w1
  · rename_i h1
    cases w1
    refine ⟨_, M, c_at a j M (Or.inl h1), w2 _ ?_, hM, a_fr_rf⟩
    rw [if_neg (fun q => q.1 h1)]
    exact a_gi (Int.le_refl _) (Int.le_refl _)
  · split at w1
    · rename_i h1 h2
      cases w1
      refine ⟨_, M, c_at a j M (Or.inr h2), w2 _ ?_, hM, a_fr_rf⟩
      split
      · rename_i h3
        obtain ⟨-, h4, h5⟩ := h3
        have h6 : a.toNat ≠ 5 := fun e => by rw [e] at h2; exact absurd h2.2.2 (by decide +kernel)
        exact a_join_ok (Or.inr (a_rd_ok hM h6 (by omega) (by omega)))
      · exact a_join_ok (Or.inl (a_gi (Int.le_refl _) (Int.le_refl _)))
    · cases w1
