section XPRE
variable {ro : MRo} {ρ : Nat → Int32} {mid d pc pc' : Nat} {i : Instr} {L L' : SL} {st st' : List SV} {A A' : SW} {E : SE} {r : MOut × MWd}
theorem x_st (hE : s_in ρ E) (hro : s_ro ro ρ) (hth : q_th mid pc = none) (hi : q_i mid pc = some i) (hs : s_step E mid d i pc L st A = some (.inl (pc', L', st', A'))) (h : ∃ k, m_run ro k d mid pc' (sl_val ρ L') (st'.map (s_val ρ)) (s_w ρ A') = some r) : ∃ k, m_run ro k d mid pc (sl_val ρ L) (st.map (s_val ρ)) (s_w ρ A) = some r := by
  obtain ⟨k, hk⟩ := h
  exact ⟨k + 1, by rw [m_run_stp hth hi (s_step_ok hE hro hs)]; exact hk⟩
theorem x_cl (hE : s_in ρ E) (hro : s_ro ro ρ) (hth : q_th mid pc = none) (hi : q_i mid pc = some i) {n : Nat} {z : Nat × List SV × List SV} {v : Option SV} (hz : s_call mid i st A = some z) (hc : s_run n d z.1 0 (s_ent 0 z.2.1) [] A E = some [(E, .inl v, A')])
    (h : ∃ k, m_run ro k (d + 1) mid (pc + 3) (sl_val ρ L) ((v.toList ++ z.2.2).map (s_val ρ)) (s_w ρ A') = some r) : ∃ k, m_run ro k (d + 1) mid pc (sl_val ρ L) (st.map (s_val ρ)) (s_w ρ A) = some r := by
  obtain ⟨k, hk⟩ := h
  obtain ⟨q, hq, hqE, k1, hk1⟩ := s_run_ok ro _ _ _ _ _ _ _ _ _ hc ρ hE hro
  rw [List.mem_singleton] at hq
  subst hq
  obtain ⟨hz1, hz2⟩ := s_call_ok (ρ := ρ) hz
  rw [s_ent_val] at hk1
  refine ⟨max k1 k + 1, ?_⟩
  rw [m_run_call hth hi hz1 hz2 (m_run_le hk1 (Nat.le_max_left _ _))]
  show m_run ro (max k1 k) (d + 1) mid (pc + 3) (sl_val ρ L) ((v.map (s_val ρ)).toList ++ z.2.2.map (s_val ρ)) _ = _
  have e : (v.map (s_val ρ)).toList ++ z.2.2.map (s_val ρ) = (v.toList ++ z.2.2).map (s_val ρ) := by cases v <;> simp
  rw [e]
  exact m_run_le hk (Nat.le_max_right _ _)
end XPRE
