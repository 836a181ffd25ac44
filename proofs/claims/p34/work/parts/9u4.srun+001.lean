def s_out (ρ : Nat → Int32) : SOut → MOut
  | .inl v => .inl (v.map (s_val ρ))
  | .inr X => .inr X
theorem s_ret_ok {ρ : Nat → Int32} {mid : Nat} {i : Instr} {st : List SV} {v : Option SV} (h : s_ret mid i st = some v) : m_ret mid i (st.map (s_val ρ)) = some (v.map (s_val ρ)) ∧ (i = .return_ ∨ i = .ireturn ∨ i = .lreturn ∨ i = .areturn) := by
  unfold s_ret at h
  split at h
  · refine ⟨?_, Or.inl rfl⟩
    split at h
    · rename_i hrt
      cases h
      simp only [m_ret, List.map_nil, hrt, Option.map_none]
    · cases h
  · refine ⟨?_, Or.inr (Or.inl rfl)⟩
    split at h
    · rename_i v hrt
      split at h
      · rename_i hv
        cases h
        obtain ⟨y, hy⟩ := m_isI_ok ((s_isI_val ρ v).trans hv)
        simp only [m_ret, List.map_cons, List.map_nil, hrt, hy, Option.map_some]
      · cases h
    · rename_i x hrt
      split at h
      · rename_i hv
        cases h
        simp only [m_ret, List.map_cons, List.map_nil, hrt, s_val, Option.map_some]
        rw [if_pos hv]
      · cases h
    · cases h
  · refine ⟨?_, Or.inr (Or.inr (Or.inl rfl))⟩
    split at h
    · rename_i v hrt
      split at h
      · rename_i hv
        cases h
        obtain ⟨y, hy⟩ := m_isL_ok ((s_isL_val ρ v).trans hv)
        simp only [m_ret, List.map_cons, List.map_nil, hrt, hy, Option.map_some]
      · cases h
    · cases h
  · refine ⟨?_, Or.inr (Or.inr (Or.inr rfl))⟩
    split at h
    · rename_i x n hrt
      cases h
      simp only [m_ret, List.map_cons, List.map_nil, hrt, s_val, Option.map_some]
    · rename_i x n hrt
      cases h
      simp only [m_ret, List.map_cons, List.map_nil, hrt, s_val, Option.map_some]
    · cases h
  · cases h
theorem s_call_ok {ρ : Nat → Int32} {mid : Nat} {i : Instr} {st : List SV} {A : SW} {z : Nat × List SV × List SV} (h : s_call mid i st A = some z) :
    m_call mid i (st.map (s_val ρ)) (s_w ρ A) = some (z.1, z.2.1.map (s_val ρ), z.2.2.map (s_val ρ)) ∧ ((∃ idx kd, i = .invokestatic idx ∧ q_m mid idx = some (z.1, kd) ∧ (kd = 1 ∨ kd = 3 ∨ kd = 7)) ∨ (∃ idx, i = .invokevirtual idx) ∨ (∃ idx kd, i = .invokespecial idx ∧ q_m mid idx = some (z.1, kd) ∧ (kd = 2 ∨ kd = 6))) := by
  unfold s_call at h
  split at h
  · split at h
    · rename_i cm kd hq
      split at h
      · rename_i hc
        obtain ⟨h1, h2, h3, h4⟩ := hc
        cases h
        refine ⟨?_, Or.inl ⟨_, kd, rfl, hq, h1⟩⟩
        simp only [m_call, hq]
        rw [if_pos ⟨h1, by rw [List.length_map]; exact h2, by rw [← List.map_drop, s_cats_val]; exact h3, by rw [← List.map_take, ← List.map_reverse, s_cats_val]; exact h4⟩, ← List.map_drop, ← List.map_take, ← List.map_reverse]
      · cases h
    · cases h
  · split at h
    · rename_i cm kd hq
      split at h
      · rename_i a r hdr
        split at h
        · rename_i hc
          obtain ⟨h1, h2, h3, h4, h5, h6, h7, h8⟩ := hc
          cases h
          refine ⟨?_, Or.inr (Or.inl ⟨_, rfl⟩)⟩
          simp only [m_call, hq]
          rw [← List.map_drop, hdr, List.map_cons]
          simp only [s_val]
          rw [if_pos ⟨h1, by rw [List.length_map]; exact h2, by rw [s_cats_val]; exact h3, by
            rw [← List.map_take, ← List.map_reverse]
            have e := s_cats_val ρ (.inl (.inr (.inr (some a))) :: (st.take (q_np cm)).reverse)
            rw [List.map_cons] at e
            simp only [s_val] at e
            rw [e]; exact h4, h5, h6, h7, h8⟩, ← List.map_take, ← List.map_reverse]
          rfl
        · cases h
      · cases h
    · cases h
  · split at h
    · rename_i cm kd hq
      split at h
      · rename_i a r hdr
        split at h
        · rename_i hc
          obtain ⟨h1, h2, h3, h4⟩ := hc
          cases h
          refine ⟨?_, Or.inr (Or.inr ⟨_, kd, rfl, hq, h1⟩)⟩
          simp only [m_call, hq]
          rw [← List.map_drop, hdr, List.map_cons]
          simp only [s_val]
          rw [if_pos ⟨h1, by rw [List.length_map]; exact h2, by rw [s_cats_val]; exact h3, by
            rw [← List.map_take, ← List.map_reverse]
            have e := s_cats_val ρ (.inl (.inr (.inr (some a))) :: (st.take (q_np cm)).reverse)
            rw [List.map_cons] at e
            simp only [s_val] at e
            rw [e]; exact h4⟩, ← List.map_take, ← List.map_reverse]
          rfl
        · cases h
      · cases h
    · cases h
  · cases h
theorem s_run_ok (ro : MRo) : ∀ (n d mid pc : Nat) (L : SL) (st : List SV) (A : SW) (E : SE) (rs : List SQ), s_run n d mid pc L st A E = some rs → ∀ ρ : Nat → Int32, s_in ρ E → s_ro ro ρ →
    ∃ q ∈ rs, s_in ρ q.1 ∧ ∃ k, m_run ro k d mid pc (sl_val ρ L) (st.map (s_val ρ)) (s_w ρ A) = some (s_out ρ q.2.1, s_w ρ q.2.2) := by
  intro n
  induction n with
  | zero => intro d mid pc L st A E rs h; cases h
  | succ n ih =>
    intro d mid pc L st A E rs h ρ hE hro
    unfold s_run at h
    split at h
    · rename_i X hth
      split at h
      · rename_i hc
        obtain ⟨h10, rfl⟩ := hc
        cases h
        refine ⟨_, List.mem_cons_self, hE, 1, ?_⟩
        rw [m_run, hth]
        dsimp only
        rw [if_pos ⟨h10, rfl⟩]
        rfl
      · cases h
    rename_i hth
    split at h
    · cases h
    rename_i i hi
    split at h
    · rename_i r hr
      obtain ⟨q, hq, hqE, k, hk⟩ := ih _ _ _ _ _ _ _ _ h ρ hE hro
      refine ⟨q, hq, hqE, k + 1, ?_⟩
      rw [m_run_stp hth hi (s_step_ok hE hro hr)]
      exact hk
    · rename_i z hz
      split at h
      · cases h
      rename_i a ha
      split at h
      · cases h
      rename_i b hb
      cases h
      by_cases hle : (ρ z.1).toInt ≤ z.2 - 1
      · obtain ⟨q, hq, hqE, k, hk⟩ := ih _ _ _ _ _ _ _ _ ha ρ (s_in_hi hE hle) hro
        exact ⟨q, List.mem_append_left _ hq, hqE, k, hk⟩
      · obtain ⟨q, hq, hqE, k, hk⟩ := ih _ _ _ _ _ _ _ _ hb ρ (s_in_lo hE (by omega)) hro
        exact ⟨q, List.mem_append_right _ hq, hqE, k, hk⟩
    split at h
    · rename_i v hv
      cases h
      obtain ⟨h1, h2⟩ := s_ret_ok (ρ := ρ) hv
      exact ⟨_, List.mem_cons_self, hE, 1, m_run_ret hth hi h1 h2⟩
    split at h
    · cases h
    rename_i z hz
    obtain ⟨hz1, hz2⟩ := s_call_ok (ρ := ρ) hz
    split at h
    · cases h
    split at h
    · cases h
    rename_i rs1 hrs1
    obtain ⟨q1, hq1, hqE1, k1, hk1⟩ := ih _ _ _ _ _ _ _ _ hrs1 ρ hE hro
    rw [s_ent_val] at hk1
    obtain ⟨x, hx, hxr⟩ := s_all_ok h q1 hq1
    split at hx
    · rename_i v hv
      obtain ⟨q, hq, hqE, k, hk⟩ := ih _ _ _ _ _ _ _ _ hx ρ hqE1 hro
      refine ⟨q, hxr q hq, hqE, max k1 k + 1, ?_⟩
      rw [m_run_call hth hi hz1 hz2 (m_run_le hk1 (Nat.le_max_left _ _)), hv]
      show m_run ro (max k1 k) (_ + 1) mid (pc + 3) (sl_val ρ L) ((v.map (s_val ρ)).toList ++ z.2.2.map (s_val ρ)) _ = _
      have e : (v.map (s_val ρ)).toList ++ z.2.2.map (s_val ρ) = (v.toList ++ z.2.2).map (s_val ρ) := by cases v <;> simp
      rw [e]
      exact m_run_le hk (Nat.le_max_right _ _)
    · rename_i X hv
      split at hx
      · rename_i hh hhq
        obtain ⟨q, hq, hqE, k, hk⟩ := ih _ _ _ _ _ _ _ _ hx ρ hqE1 hro
        refine ⟨q, hxr q hq, hqE, max k1 k + 1, ?_⟩
        rw [m_run_call hth hi hz1 hz2 (m_run_le hk1 (Nat.le_max_left _ _)), hv]
        show (match q_h mid pc X with | none => none | some hh => _) = _
        rw [hhq]
        dsimp only
        rw [s_drop_val] at hk
        exact m_run_le hk (Nat.le_max_right _ _)
      · cases hx

