theorem q_goodIn {ws : List Cond} (h : ∀ w ∈ ws, w ∈ q_W) : GoodIn q_W ws := fun w hw => ⟨h w hw, good_of_word (List.mem_filter.mp (h w hw)).2⟩
theorem m_len0 {i : Instr} (h : m_len i = 0) : ∃ a b c d, i = .tableswitch a b c d := by
  cases i
  case tableswitch a b c d => exact ⟨a, b, c, d, rfl⟩
  all_goals (exact absurd h (by simp [m_len]))
theorem m_heap_len {ro : MRo} {mid : Nat} {i : Instr} {st : List MV} {w : MWd} {r : List MV × MWd} {len : Nat} (h : m_heap ro mid i st w = some r) (hn : m_len i = len ∨ m_len i = 0) : len = m_len i := by
  rcases hn with hn | hn
  · exact hn.symm
  · obtain ⟨a, b, c, d, rfl⟩ := m_len0 hn
    cases h
theorem m_new_len {mid : Nat} {i : Instr} {st : List MV} {w : MWd} {r : List MV × MWd} {len : Nat} (h : m_new mid i st w = some r) (hn : m_len i = len ∨ m_len i = 0) : len = m_len i := by
  rcases hn with hn | hn
  · exact hn.symm
  · obtain ⟨a, b, c, d, rfl⟩ := m_len0 hn
    unfold m_new at h
    split at h <;> cases h
theorem m_heap_same {ro : MRo} {mid : Nat} {i : Instr} {st : List MV} {w : MWd} {r : List MV × MWd} (h : m_heap ro mid i st w = some r) : mnx r.2 = mnx w ∧ mcx r.2 = mcx w ∧ msl r.2 = msl w := by
  unfold m_heap at h
  repeat' split at h
  all_goals (first | (cases h; exact ⟨rfl, rfl, rfl⟩) | cases h)
theorem m_new_fresh {mid : Nat} {i : Instr} {st : List MV} {w : MWd} {r : List MV × MWd} (h : m_new mid i st w = some r) : mcx w + 8 = mnx w := by
  unfold m_new at h
  split at h
  · assumption
  · cases h
theorem m_take_split {n : Nat} {st : List MV} (h : n ≤ st.length) : ((st.take n).reverse).length = n ∧ st = ((st.take n).reverse).reverse ++ st.drop n := by
  refine ⟨by rw [List.length_reverse, List.length_take]; omega, by rw [List.reverse_reverse, List.take_append_drop]⟩
theorem m_call_ok {mid : Nat} {i : Instr} {st : List MV} {w : MWd} {z : Nat × List MV × List MV} (h : m_call mid i st w = some z) : ∃ (idx kd : Nat) (Bs : List MV), q_m mid idx = some (z.1, kd) ∧ Bs.length = q_np z.1 ∧ m_cats z.2.2 ≤ 8 ∧ m_cats z.2.1 ≤ q_nl z.1 ∧
    ((i = .invokestatic idx ∧ (kd = 1 ∨ kd = 3 ∨ kd = 7) ∧ z.2.1 = Bs ∧ st = Bs.reverse ++ z.2.2) ∨
     (i = .invokevirtual idx ∧ kd = 0 ∧ ∃ a, z.2.1 = .inr (.inr (some a)) :: Bs ∧ st = Bs.reverse ++ .inr (.inr (some a)) :: z.2.2 ∧ 8 ≤ a ∧ a < mnx w ∧ (msh w a).1 < 100 ∧ q_rc z.1 = some (msh w a).1) ∨
     (i = .invokespecial idx ∧ (kd = 2 ∨ kd = 6) ∧ ∃ a, z.2.1 = .inr (.inr (some a)) :: Bs ∧ st = Bs.reverse ++ .inr (.inr (some a)) :: z.2.2)) := by
  unfold m_call at h
  split at h
  · split at h
    · rename_i cm kd hq
      split at h
      · rename_i hc
        obtain ⟨h1, h2, h3, h4⟩ := hc
        cases h
        obtain ⟨e1, e2⟩ := m_take_split h2
        exact ⟨_, kd, _, hq, e1, h3, h4, Or.inl ⟨rfl, h1, rfl, e2⟩⟩
      · cases h
    · cases h
  · split at h
    · rename_i cm kd hq
      split at h
      · rename_i a r hdrop
        split at h
        · rename_i hc
          obtain ⟨h1, h2, h3, h4, h5, h6, h7, h8⟩ := hc
          cases h
          obtain ⟨e1, e2⟩ := m_take_split h2
          rw [hdrop] at e2
          exact ⟨_, kd, _, hq, e1, h3, h4, Or.inr (Or.inl ⟨rfl, h1, a, rfl, e2, h5, h6, h7, h8⟩)⟩
        · cases h
      · cases h
    · cases h
  · split at h
    · rename_i cm kd hq
      split at h
      · rename_i a r hdrop
        split at h
        · rename_i hc
          obtain ⟨h1, h2, h3, h4⟩ := hc
          cases h
          obtain ⟨e1, e2⟩ := m_take_split h2
          rw [hdrop] at e2
          exact ⟨_, kd, _, hq, e1, h3, h4, Or.inr (Or.inr ⟨rfl, h1, a, rfl, e2⟩)⟩
        · cases h
      · cases h
    · cases h
  · cases h
