def m_drop (L : ML) (k : Nat) : ML := L.filter (fun q => !(q.1 == k) && !(q.1 + 1 == k && m_isL q.2))
/-- THE SMALL MACHINE: n steps at most, calls d deep -/
def m_run (ro : MRo) : Nat → Nat → Nat → Nat → ML → List MV → MWd → Option (MOut × MWd)
  | 0, _, _, _, _, _, _ => none
  | n + 1, d, mid, pc, L, st, w => match q_th mid pc with
    | some E => if 10 ≤ d ∧ st = [] then some (.inr E, m_thr w) else none
    | none => match q_i mid pc with
      | none => none
      | some i => match m_pure i pc (q_nl mid) L st with
        | some r => m_run ro n d mid r.1 r.2.1 r.2.2 w
        | none => match m_heap ro mid i st w with
          | some r => m_run ro n d mid (pc + m_len i) L r.1 r.2
          | none => match m_new mid i st w with
            | some r => m_run ro n d mid (pc + m_len i) L r.1 r.2
            | none => match m_ret mid i st with
              | some v => some (.inl v, w)
              | none => match m_obj mid i st with
                | some st' => if d = 0 then none else m_run ro n d mid (pc + 3) L st' w
                | none => match m_con mid i with
                  | some v => m_run ro n d mid (pc + m_len i) L (v :: st) w
                  | none => match m_cpy mid i st w with
                    | some r => if d = 0 then none else m_run ro n d mid (pc + 3) L r.1 r.2
                    | none => match m_call mid i st w with
                      | none => none
                      | some z => match d with
                        | 0 => none
                        | d' + 1 => match m_run ro n d' z.1 0 (m_ent 0 z.2.1) [] w with
                          | none => none
                          | some (.inl v, w1) => m_run ro n (d' + 1) mid (pc + 3) L (v.toList ++ z.2.2) w1
                          | some (.inr E, w1) => match q_h mid pc E with
                            | none => none
                            | some hh => m_run ro n (d' + 1) mid hh.1 (m_drop L hh.2) [] w1
/-- what grows: the numbers, the cells (no slower than the numbers), the slots -/
def m_gr (w w' : MWd) : Prop := mnx w ≤ mnx w' ∧ mnx w' + mcx w ≤ mnx w + mcx w' ∧ mcx w ≤ mcx w' ∧ msl w ≤ msl w'
theorem m_gr_rf (w : MWd) : m_gr w w := ⟨Nat.le_refl _, Nat.le_refl _, Nat.le_refl _, Nat.le_refl _⟩
theorem m_gr_tr {w w1 w2 : MWd} (h : m_gr w w1) (k : m_gr w1 w2) : m_gr w w2 := by
  obtain ⟨a1, a2, a3, a4⟩ := h
  obtain ⟨b1, b2, b3, b4⟩ := k
  exact ⟨by omega, by omega, by omega, by omega⟩
theorem m_heap_gr {ro : MRo} {mid : Nat} {i : Instr} {st : List MV} {w : MWd} {r : List MV × MWd} (h : m_heap ro mid i st w = some r) : m_gr w r.2 := by
  unfold m_heap at h
  repeat' split at h
  all_goals (first | (cases h; exact m_gr_rf _) | cases h)
theorem m_mk_gr (w : MWd) (k : Nat × Nat) (f : Nat → MV) : m_gr w (m_mk w k f) := ⟨Nat.le_succ _, by show w.1 + 1 + w.2.1 ≤ w.1 + (w.2.1 + 1); omega, Nat.le_succ _, Nat.le_add_right _ _⟩
theorem m_new_gr {mid : Nat} {i : Instr} {st : List MV} {w : MWd} {r : List MV × MWd} (h : m_new mid i st w = some r) : m_gr w r.2 := by
  unfold m_new at h
  repeat' split at h
  all_goals (first | (cases h; exact m_mk_gr _ _ _) | cases h)
theorem m_cpy_same {mid : Nat} {i : Instr} {st : List MV} {w : MWd} {r : List MV × MWd} (h : m_cpy mid i st w = some r) : mnx r.2 = mnx w ∧ mcx r.2 = mcx w ∧ msl r.2 = msl w := by
  unfold m_cpy at h
  repeat' split at h
  all_goals (first | (cases h; exact ⟨rfl, rfl, rfl⟩) | cases h)
theorem m_cpy_gr {mid : Nat} {i : Instr} {st : List MV} {w : MWd} {r : List MV × MWd} (h : m_cpy mid i st w = some r) : m_gr w r.2 := by
  obtain ⟨h1, h2, h3⟩ := m_cpy_same h
  exact ⟨by omega, by omega, by omega, by omega⟩
theorem m_run_gr (ro : MRo) : ∀ (n d mid pc : Nat) (L : ML) (st : List MV) (w : MWd) (r : MOut × MWd), m_run ro n d mid pc L st w = some r → m_gr w r.2 := by
  intro n
  induction n with
  | zero => intro d mid pc L st w r h; cases h
  | succ n ih =>
    intro d mid pc L st w r h
    unfold m_run at h
    split at h
    · split at h
      · cases h
        exact ⟨Nat.le_refl _, by show w.1 + w.2.1 ≤ w.1 + (w.2.1 + 1); omega, Nat.le_succ _, Nat.le_add_right _ _⟩
      · cases h
    split at h
    · cases h
    split at h
    · exact ih _ _ _ _ _ _ _ h
    split at h
    · rename_i h1
      exact m_gr_tr (m_heap_gr h1) (ih _ _ _ _ _ _ _ h)
    split at h
    · rename_i h1
      exact m_gr_tr (m_new_gr h1) (ih _ _ _ _ _ _ _ h)
    split at h
    · cases h; exact m_gr_rf _
    split at h
    · split at h
      · cases h
      · exact ih _ _ _ _ _ _ _ h
    split at h
    · exact ih _ _ _ _ _ _ _ h
    split at h
    · rename_i h1
      split at h
      · cases h
      · exact m_gr_tr (m_cpy_gr h1) (ih _ _ _ _ _ _ _ h)
    split at h
    · cases h
    split at h
    · cases h
    split at h
    · cases h
    · rename_i h1
      exact m_gr_tr (ih _ _ _ _ _ _ _ h1) (ih _ _ _ _ _ _ _ h)
    · rename_i h1
      split at h
      · cases h
      · exact m_gr_tr (ih _ _ _ _ _ _ _ h1) (ih _ _ _ _ _ _ _ h)

