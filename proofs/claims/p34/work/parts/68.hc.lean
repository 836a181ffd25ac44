/-- a field that holds an array of ints -/
theorem c_cells : ((List.range e_N).all fun a => decide ((e_sh a).1 ≠ 1) || (decide (0 < e_gr a 0) && decide ((e_gr a 0).toNat < e_N) && decide (e_sh (e_gr a 0).toNat = (100, 240)) && decide (0 < e_gr a 1) && decide ((e_gr a 1).toNat < e_N) && decide (e_sh (e_gr a 1).toNat = (100, 240)))) = true := by decide +kernel
theorem c_cells_ok {h : Int} (hh : e_isO 1 h) : (0 < e_gr h.toNat 0 ∧ (e_gr h.toNat 0).toNat < e_N ∧ e_sh (e_gr h.toNat 0).toNat = (100, 240)) ∧ (0 < e_gr h.toNat 1 ∧ (e_gr h.toNat 1).toNat < e_N ∧ e_sh (e_gr h.toNat 1).toNat = (100, 240)) := by
  have h1 := List.all_eq_true.mp c_cells h.toNat (List.mem_range.mpr hh.2.1)
  simp only [Bool.or_eq_true, Bool.and_eq_true, decide_eq_true_eq] at h1
  rcases h1 with h1 | ⟨⟨⟨⟨⟨a1, a2⟩, a3⟩, a4⟩, a5⟩, a6⟩
  · exact absurd hh.2.2 h1
  · exact ⟨⟨a1, a2, a3⟩, ⟨a4, a5, a6⟩⟩
/-- an array of 240 read anywhere -/
def c_rd (M : EM) (a i : Int) : Int := if 0 ≤ i ∧ i < 240 then M a.toNat i.toNat else 0
theorem c_at240 {a i : Int} {M : EM} (h : 0 < a ∧ a.toNat < e_N ∧ e_sh a.toNat = (100, 240)) : E_C 146 [a, i] M = some (c_rd M a i, M) := by
  rw [c_at a i M (Or.inr ⟨h.1, h.2.1, by rw [h.2.2]⟩), h.2.2]
  unfold c_rd
  have : a ≠ -1 := by omega
  simp [this]
theorem c_hc_step {h c n f l i : Int} {M : EM} (hh : e_isO 1 h) : E_V 36 67 [h, c, n, f, l, i] M = (if i ≤ l then (if c_rd M (e_gr h.toNat 0) i ≤ c_rd M (e_gr h.toNat 0) (e_w (i - 1)) ∨ c_rd M (e_gr h.toNat 1) (e_w (i - 1)) ≤ c_rd M (e_gr h.toNat 1) i then some (0, M) else E_V 36 67 [h, c, n, f, l, e_w (i + 1)] M) else some (1, M)) := by
  obtain ⟨p0, p1⟩ := c_cells_ok hh
  have g0 : ∀ M', e_gf 64 [h] M' = some (e_gr h.toNat 0) := fun M' => if_pos hh
  have g1 : ∀ M', e_gf 65 [h] M' = some (e_gr h.toNat 1) := fun M' => if_pos hh
  rw [E_V_eq]
  show e_tv E_C (E_V 36) e_t36_67 [h, c, n, f, l, i] M = _
  unfold e_t36_67
  by_cases h1 : i ≤ l
  · by_cases h2 : c_rd M (e_gr h.toNat 0) i ≤ c_rd M (e_gr h.toNat 0) (e_w (i - 1))
    · simp [e_tv, e_ev, e_sv, e_op, e_b2, g0, g1, c_at240 p0, c_at240 p1, h1, h2]
    · by_cases h3 : c_rd M (e_gr h.toNat 1) (e_w (i - 1)) ≤ c_rd M (e_gr h.toNat 1) i
      · simp [e_tv, e_ev, e_sv, e_op, e_b2, g0, g1, c_at240 p0, c_at240 p1, h1, h2, h3]
      · simp [e_tv, e_ev, e_sv, e_op, e_b2, g0, g1, c_at240 p0, c_at240 p1, h1, h2, h3]
  · simp [e_tv, e_ev, e_sv, e_op, e_b2, g0, g1, c_at240 p0, c_at240 p1, h1]
theorem c_hc_loop {h c n f l : Int} {M : EM} (hh : e_isO 1 h) : ∀ (m : Nat) (i : Int), -2147483648 ≤ i → i ≤ 2147483647 → (241 - i).toNat ≤ m → ∃ r, E_V 36 67 [h, c, n, f, l, i] M = some (r, M) ∧ 0 ≤ r ∧ r ≤ 1 := by
  intro m
  induction m with
  | zero =>
    intro i hlo hhi hi
    rw [c_hc_step hh]
    split
    · split
      · exact ⟨0, rfl, by decide, by decide⟩
      · rename_i hc
        exfalso
        refine hc (Or.inl ?_)
        have e1 : c_rd M (e_gr h.toNat 0) i = 0 := if_neg (by omega)
        have e2 : c_rd M (e_gr h.toNat 0) (e_w (i - 1)) = 0 := if_neg (by unfold e_w; omega)
        rw [e1, e2]; exact Int.le_refl _
    · exact ⟨1, rfl, by decide, by decide⟩
  | succ m ih =>
    intro i hlo hhi hi
    rw [c_hc_step hh]
    split
    · split
      · exact ⟨0, rfl, by decide, by decide⟩
      · rename_i hc
        by_cases h0 : 0 ≤ i ∧ i ≤ 240
        · rw [a_w_id (by omega) (by omega)]
          exact ih (i + 1) (by omega) (by omega) (by omega)
        · exfalso
          refine hc (Or.inl ?_)
          have e1 : c_rd M (e_gr h.toNat 0) i = 0 := if_neg (by omega)
          have e2 : c_rd M (e_gr h.toNat 0) (e_w (i - 1)) = 0 := if_neg (by unfold e_w; omega)
          rw [e1, e2]; exact Int.le_refl _
    · exact ⟨1, rfl, by decide, by decide⟩
theorem c_hc {h c n : Int} {M : EM} (hh : e_isO 1 h) : ∃ r, E_C 36 [h, c, n] M = some (r, M) ∧ 0 ≤ r ∧ r ≤ 1 := by
  obtain ⟨p0, p1⟩ := c_cells_ok hh
  have g0 : ∀ M', e_gf 64 [h] M' = some (e_gr h.toNat 0) := fun M' => if_pos hh
  have g1 : ∀ M', e_gf 65 [h] M' = some (e_gr h.toNat 1) := fun M' => if_pos hh
  have h1 : E_C 36 [h, c, n] M = e_tv E_C (E_V 36) e_t36_0 [h, c, n, 0, 0, 0] M := by
    unfold E_C
    rw [if_pos (show e_rok 36 [h, c, n] = true from decide_eq_true hh), E_V_eq]
    rfl
  rw [h1]
  unfold e_t36_0
  generalize hf : e_w (c * 6) = f
  generalize hl : e_w (e_w (f + n) - 1) = l
  have hend := c_hc_loop (c := c) (n := n) (f := f) (l := l) (M := M) hh _ (e_w (f + 1)) (a_w _).1 (a_w _).2 (Nat.le_refl _)
  by_cases q1 : c_rd M (e_gr h.toNat 0) f = 0
  · by_cases q2 : c_rd M (e_gr h.toNat 0) l ≤ 60
    · by_cases q3 : c_rd M (e_gr h.toNat 1) f = 0
      · exact ⟨0, by simp [e_tv, e_ev, e_sv, e_op, e_b1, e_b2, g0, g1, c_at240 p0, c_at240 p1, hf, hl, q1, q2, q3], by decide, by decide⟩
      · by_cases q4 : c_rd M (e_gr h.toNat 1) l = 0
        · obtain ⟨r, r1, r2⟩ := hend
          exact ⟨r, by simp [e_tv, e_ev, e_sv, e_op, e_b1, e_b2, g0, g1, c_at240 p0, c_at240 p1, hf, hl, q1, q2, q3, q4, r1], r2⟩
        · exact ⟨0, by simp [e_tv, e_ev, e_sv, e_op, e_b1, e_b2, g0, g1, c_at240 p0, c_at240 p1, hf, hl, q1, q2, q3, q4], by decide, by decide⟩
    · exact ⟨0, by simp [e_tv, e_ev, e_sv, e_op, e_b1, e_b2, g0, g1, c_at240 p0, c_at240 p1, hf, hl, q1, q2], by decide, by decide⟩
  · exact ⟨0, by simp [e_tv, e_ev, e_sv, e_op, e_b1, e_b2, g0, g1, c_at240 p0, c_at240 p1, hf, hl, q1], by decide, by decide⟩
