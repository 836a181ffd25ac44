theorem e_find_key {f : Nat → Bool} {j : Nat} : ∀ {G : List (Nat × Nat)} {t : Nat}, q_find (G.filter (fun q => f q.1)) j = some t → q_find G j = some t ∧ f j = true
  | [], t, h => by simp [q_find] at h
  | (k, u) :: G, t, h => by
    rw [List.filter_cons] at h
    split at h
    · rename_i hf
      unfold q_find at h ⊢
      cases hb : Nat.beq k j with
      | true =>
        rw [hb] at h
        have := Nat.eq_of_beq_eq_true hb
        subst this
        exact ⟨h, hf⟩
      | false =>
        rw [hb] at h
        exact e_find_key h
    · rename_i hf
      have h2 := e_find_key h
      refine ⟨?_, h2.2⟩
      unfold q_find
      cases hb : Nat.beq k j with
      | true =>
        have := Nat.eq_of_beq_eq_true hb
        subst this
        exact absurd h2.2 hf
      | false => exact h2.1
theorem e_get_fil {p : Nat × MV → Bool} {j : Nat} {v : MV} : ∀ {ML1 : ML}, m_get ML1 j = some v → p (j, v) = true → m_get (ML1.filter p) j = some v
  | [], h, _ => by simp [m_get] at h
  | (k, u) :: t, h, hp => by
    unfold m_get at h
    rw [List.filter_cons]
    by_cases hk : k = j
    · rw [if_pos hk] at h
      cases h
      subst hk
      rw [if_pos hp]
      unfold m_get
      rw [if_pos rfl]
    · rw [if_neg hk] at h
      have h2 := e_get_fil h hp
      split
      · unfold m_get
        rw [if_neg hk]; exact h2
      · exact h2
theorem e_kp_ok {G : List (Nat × Nat)} {i t j : Nat} (h : e_kp G i t j = true) : j ≠ i ∧ (j + 1 = i → q_find G j ≠ some 1) ∧ (t = 1 → j ≠ i + 1) := by
  unfold e_kp at h
  simp only [Bool.and_eq_true, Bool.not_eq_true', Bool.and_eq_false_iff, beq_eq_false_iff_ne] at h
  obtain ⟨h1, h2, h3⟩ := h
  refine ⟨fun e => by subst e; simp at h1, fun e => ?_, fun e1 e2 => ?_⟩
  · rcases h2 with h2 | h2
    · subst e; simp at h2
    · exact h2
  · subst e1 e2
    rcases h3 with h3 | h3 <;> simp at h3
theorem e_find_hd {i t : Nat} {G : List (Nat × Nat)} : q_find ((i, t) :: G) i = some t := by
  unfold q_find; simp
theorem e_find_tl {i j t : Nat} {G : List (Nat × Nat)} (h : j ≠ i) : q_find ((i, t) :: G) j = q_find G j := by
  conv => lhs; unfold q_find
  have : Nat.beq i j = false := by
    cases hb : Nat.beq i j with
    | false => rfl
    | true => exact absurd (Nat.eq_of_beq_eq_true hb).symm h
  rw [this]; rfl
