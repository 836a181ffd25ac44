def m_stp (ro : MRo) (mid d : Nat) (i : Instr) (pc : Nat) (L : ML) (st : List MV) (w : MWd) : Option (Nat × ML × List MV × MWd) := match m_pure i pc (q_nl mid) L st with
  | some r => some (r.1, r.2.1, r.2.2, w)
  | none => match m_heap ro mid i st w with
    | some r => some (pc + m_len i, L, r.1, r.2)
    | none => match m_new mid i st w with
      | some r => some (pc + m_len i, L, r.1, r.2)
      | none => match m_ret mid i st with
        | some _ => none
        | none => match m_obj mid i st with
          | some st' => if d = 0 then none else some (pc + 3, L, st', w)
          | none => match m_con mid i with
            | some v => some (pc + m_len i, L, v :: st, w)
            | none => match m_cpy mid i st w with
              | some r => if d = 0 then none else some (pc + 3, L, r.1, r.2)
              | none => none
theorem m_run_stp {ro : MRo} {n mid d : Nat} {i : Instr} {pc : Nat} {L : ML} {st : List MV} {w : MWd} {r : Nat × ML × List MV × MWd} (hth : q_th mid pc = none) (hi : q_i mid pc = some i) (h : m_stp ro mid d i pc L st w = some r) : m_run ro (n + 1) d mid pc L st w = m_run ro n d mid r.1 r.2.1 r.2.2.1 r.2.2.2 := by
  unfold m_stp at h
  rw [m_run]
  rw [hth, hi]
  dsimp only
  split at h
  · rename_i h1; rw [h1]; cases h; rfl
  · rename_i h1; rw [h1]; dsimp only
    split at h
    · rename_i h2; rw [h2]; cases h; rfl
    · rename_i h2; rw [h2]; dsimp only
      split at h
      · rename_i h3; rw [h3]; cases h; rfl
      · rename_i h3; rw [h3]; dsimp only
        split at h
        · cases h
        · rename_i h4; rw [h4]; dsimp only
          split at h
          · rename_i h5; rw [h5]; dsimp only
            split at h
            · cases h
            · rename_i h6; rw [if_neg h6]; cases h; rfl
          · rename_i h5; rw [h5]; dsimp only
            split at h
            · rename_i h6; rw [h6]; cases h; rfl
            · rename_i h6; rw [h6]; dsimp only
              split at h
              · rename_i h7; rw [h7]; dsimp only
                split at h
                · cases h
                · rename_i h8; rw [if_neg h8]; cases h; rfl
              · cases h
