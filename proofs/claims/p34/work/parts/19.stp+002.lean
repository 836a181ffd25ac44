theorem m_run_up (ro : MRo) : ∀ (n d mid pc : Nat) (L : ML) (st : List MV) (w : MWd) (r : MOut × MWd), m_run ro n d mid pc L st w = some r → m_run ro (n + 1) d mid pc L st w = some r := by
  intro n
  induction n with
  | zero => intro d mid pc L st w r h; cases h
  | succ n ih =>
    intro d mid pc L st w r h
    rw [m_run] at h ⊢
    split at h
    · exact h
    split at h
    · cases h
    split at h
    · exact ih _ _ _ _ _ _ _ h
    split at h
    · exact ih _ _ _ _ _ _ _ h
    split at h
    · exact ih _ _ _ _ _ _ _ h
    split at h
    · exact h
    split at h
    · split at h
      · cases h
      · rename_i hd; rw [if_neg hd]; exact ih _ _ _ _ _ _ _ h
    split at h
    · exact ih _ _ _ _ _ _ _ h
    split at h
    · split at h
      · cases h
      · rename_i hd; rw [if_neg hd]; exact ih _ _ _ _ _ _ _ h
    split at h
    · cases h
    split at h
    · cases h
    split at h
    · cases h
    · rename_i h11
      rw [ih _ _ _ _ _ _ _ h11]
      exact ih _ _ _ _ _ _ _ h
    · rename_i h11
      rw [ih _ _ _ _ _ _ _ h11]
      dsimp only
      split at h
      · cases h
      · exact ih _ _ _ _ _ _ _ h
theorem m_run_le {ro : MRo} {n k d mid pc : Nat} {L : ML} {st : List MV} {w : MWd} {r : MOut × MWd} (h : m_run ro n d mid pc L st w = some r) (hk : n ≤ k) : m_run ro k d mid pc L st w = some r := by
  obtain ⟨j, rfl⟩ := Nat.exists_eq_add_of_le hk
  induction j with
  | zero => exact h
  | succ j ih => exact m_run_up ro _ _ _ _ _ _ _ _ (ih (Nat.le_add_right _ _))
/-- behind a call -/
def m_aft (ro : MRo) (n d mid pc : Nat) (L : ML) (rest : List MV) (w1 : MWd) : MOut → Option (MOut × MWd)
  | .inl v => m_run ro n d mid (pc + 3) L (v.toList ++ rest) w1
  | .inr E => match q_h mid pc E with
    | none => none
    | some hh => m_run ro n d mid hh.1 (m_drop L hh.2) [] w1
/-- the small machine at a call -/
theorem m_run_call {ro : MRo} {n d mid pc : Nat} {i : Instr} {L : ML} {st : List MV} {w : MWd} {z : Nat × List MV × List MV} {o : MOut} {w1 : MWd} (hth : q_th mid pc = none) (hi : q_i mid pc = some i) (hz : m_call mid i st w = some z)
    (hk : (∃ idx kd, i = .invokestatic idx ∧ q_m mid idx = some (z.1, kd) ∧ (kd = 1 ∨ kd = 3 ∨ kd = 7)) ∨ (∃ idx, i = .invokevirtual idx) ∨ (∃ idx kd, i = .invokespecial idx ∧ q_m mid idx = some (z.1, kd) ∧ (kd = 2 ∨ kd = 6)))
    (h1 : m_run ro n d z.1 0 (m_ent 0 z.2.1) [] w = some (o, w1)) : m_run ro (n + 1) (d + 1) mid pc L st w = m_aft ro n (d + 1) mid pc L z.2.2 w1 o := by
  have hp : m_pure i pc (q_nl mid) L st = none := by rcases hk with ⟨idx, kd, rfl, -⟩ | ⟨idx, rfl⟩ | ⟨idx, kd, rfl, -⟩ <;> rfl
  have hh : m_heap ro mid i st w = none := by rcases hk with ⟨idx, kd, rfl, -⟩ | ⟨idx, rfl⟩ | ⟨idx, kd, rfl, -⟩ <;> rfl
  have hn : m_new mid i st w = none := by
    rcases hk with ⟨idx, kd, rfl, -⟩ | ⟨idx, rfl⟩ | ⟨idx, kd, rfl, -⟩ <;> exact m_new_none (fun _ q => by cases q) (fun _ q => by cases q) (fun _ q => by cases q)
  have hr : m_ret mid i st = none := by rcases hk with ⟨idx, kd, rfl, -⟩ | ⟨idx, rfl⟩ | ⟨idx, kd, rfl, -⟩ <;> rfl
  have ho : m_obj mid i st = none := by
    rcases hk with ⟨idx, kd, rfl, hq, hkd⟩ | ⟨idx, rfl⟩ | ⟨idx, kd, rfl, hq, hkd⟩
    · rcases hkd with rfl | rfl | rfl <;> simp only [m_obj, hq]
    · rfl
    · rcases hkd with rfl | rfl <;> simp only [m_obj, hq]
  have hc : m_con mid i = none := by rcases hk with ⟨idx, kd, rfl, -⟩ | ⟨idx, rfl⟩ | ⟨idx, kd, rfl, -⟩ <;> rfl
  have hy : m_cpy mid i st w = none := by
    rcases hk with ⟨idx, kd, rfl, hq, hkd⟩ | ⟨idx, rfl⟩ | ⟨idx, kd, rfl, hq, hkd⟩
    · rcases hkd with rfl | rfl | rfl <;> simp only [m_cpy, hq]
    · rfl
    · rfl
  rw [m_run]
  rw [hth, hi]; dsimp only
  rw [hp]; dsimp only
  rw [hh]; dsimp only
  rw [hn]; dsimp only
  rw [hr]; dsimp only
  rw [ho]; dsimp only
  rw [hc]; dsimp only
  rw [hy]; dsimp only
  rw [hz]; dsimp only
  rw [h1]
  rcases o with v | E
  · rfl
  · rfl
theorem m_run_ret {ro : MRo} {n d mid pc : Nat} {i : Instr} {L : ML} {st : List MV} {w : MWd} {v : Option MV} (hth : q_th mid pc = none) (hi : q_i mid pc = some i) (hv : m_ret mid i st = some v) (hk : i = .return_ ∨ i = .ireturn ∨ i = .lreturn ∨ i = .areturn) : m_run ro (n + 1) d mid pc L st w = some (.inl v, w) := by
  have hp : m_pure i pc (q_nl mid) L st = none := by rcases hk with rfl | rfl | rfl | rfl <;> rfl
  have hh : m_heap ro mid i st w = none := by rcases hk with rfl | rfl | rfl | rfl <;> rfl
  have hn : m_new mid i st w = none := by
    rcases hk with rfl | rfl | rfl | rfl <;> exact m_new_none (fun _ q => by cases q) (fun _ q => by cases q) (fun _ q => by cases q)
  rw [m_run]
  rw [hth, hi]; dsimp only
  rw [hp]; dsimp only
  rw [hh]; dsimp only
  rw [hn]; dsimp only
  rw [hv]

