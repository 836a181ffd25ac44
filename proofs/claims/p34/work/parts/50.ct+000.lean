theorem e_rt_0 {mid : Nat} (h : e_rt mid = some 0) : q_rt mid = some .int := by
  unfold e_rt at h
  split at h <;> first
    | assumption
    | (exfalso; simp at h; done)
theorem e_rt_3 {mid : Nat} (h : e_rt mid = some 3) : q_rt mid = some .boolean := by
  unfold e_rt at h
  split at h <;> first
    | assumption
    | (exfalso; simp at h; done)
theorem e_rt_1 {mid : Nat} (h : e_rt mid = some 1) : q_rt mid = some .long := by
  unfold e_rt at h
  split at h <;> first
    | assumption
    | (exfalso; simp at h; done)
