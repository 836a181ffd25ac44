section STP
variable {pc mid d : Nat} {ro : MRo} {i : Instr}
theorem m_stp_p {L : ML} {st : List MV} {w : MWd} {r : Nat × ML × List MV} (h : m_pure i pc (q_nl mid) L st = some r) : m_stp ro mid d i pc L st w = some (r.1, r.2.1, r.2.2, w) := by
  unfold m_stp; rw [h]
theorem m_stp_h {L : ML} {st : List MV} {w : MWd} {r : List MV × MWd} (h0 : m_pure i pc (q_nl mid) L st = none) (h : m_heap ro mid i st w = some r) : m_stp ro mid d i pc L st w = some (pc + m_len i, L, r.1, r.2) := by
  unfold m_stp; rw [h0, h]
theorem m_stp_n {L : ML} {st : List MV} {w : MWd} {r : List MV × MWd} (h0 : m_pure i pc (q_nl mid) L st = none) (h1 : m_heap ro mid i st w = none) (h : m_new mid i st w = some r) : m_stp ro mid d i pc L st w = some (pc + m_len i, L, r.1, r.2) := by
  unfold m_stp; rw [h0, h1, h]
theorem m_stp_o {L : ML} {st st' : List MV} {w : MWd} (h0 : m_pure i pc (q_nl mid) L st = none) (h1 : m_heap ro mid i st w = none) (h2 : m_new mid i st w = none) (h3 : m_ret mid i st = none) (h : m_obj mid i st = some st') (hd : d ≠ 0) : m_stp ro mid d i pc L st w = some (pc + 3, L, st', w) := by
  unfold m_stp; rw [h0, h1, h2, h3, h]; dsimp only; rw [if_neg hd]
theorem m_stp_c {L : ML} {st : List MV} {v : MV} {w : MWd} (h0 : m_pure i pc (q_nl mid) L st = none) (h1 : m_heap ro mid i st w = none) (h2 : m_new mid i st w = none) (h3 : m_ret mid i st = none) (h4 : m_obj mid i st = none) (h : m_con mid i = some v) : m_stp ro mid d i pc L st w = some (pc + m_len i, L, v :: st, w) := by
  unfold m_stp; rw [h0, h1, h2, h3, h4, h]
theorem m_stp_y {L : ML} {st : List MV} {w : MWd} {r : List MV × MWd} (h0 : m_pure i pc (q_nl mid) L st = none) (h1 : m_heap ro mid i st w = none) (h2 : m_new mid i st w = none) (h3 : m_ret mid i st = none) (h4 : m_obj mid i st = none) (h5 : m_con mid i = none) (h : m_cpy mid i st w = some r) (hd : d ≠ 0) : m_stp ro mid d i pc L st w = some (pc + 3, L, r.1, r.2) := by
  unfold m_stp; rw [h0, h1, h2, h3, h4, h5, h]; dsimp only; rw [if_neg hd]
theorem m_new_none {st : List MV} {w : MWd} (h1 : ∀ idx, i ≠ .new idx) (h2 : ∀ t, i ≠ .newarray t) (h3 : ∀ idx, i ≠ .anewarray idx) : m_new mid i st w = none := by
  unfold m_new
  split
  · split
    · exact absurd rfl (h1 _)
    · exact absurd rfl (h2 _)
    · exact absurd rfl (h3 _)
    · rfl
  · rfl
end STP
