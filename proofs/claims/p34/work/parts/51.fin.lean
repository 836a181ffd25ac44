theorem e_get_tl {j i : Nat} {v : MV} {t : ML} (h : ¬ j = i) : m_get ((j, v) :: t) i = m_get t i := by
  conv => lhs; unfold m_get
  rw [if_neg h]
theorem e_ent_pd : ∀ (P : List Nat) (j : Nat) (xs : List Int) (vs : List MV), e_vs P xs vs → ∀ i t, q_find (e_ent j P) i = some t → j ≤ i ∧ ∃ u, m_get (m_ent j vs) i = some u ∧ e_v t ((e_pd P xs).getD (i - j) 0) u ∧ i - j < (e_pd P xs).length
  | [], j, xs, vs, h, i, t, hi => by simp [e_ent, q_find] at hi
  | p :: P, j, x :: xs, v :: vs, h, i, t, hi => by
    have hL := e_v_L h.1
    by_cases hji : j = i
    · subst hji
      have h2 : q_find (e_ent j (p :: P)) j = some p := by
        show q_find ((j, p) :: _) j = _
        exact e_find_hd
      rw [h2] at hi
      cases hi
      refine ⟨Nat.le_refl _, v, ?_, ?_, ?_⟩
      · show m_get ((j, v) :: _) j = _
        unfold m_get; rw [if_pos rfl]
      · rw [Nat.sub_self]
        unfold e_pd
        split <;> exact h.1
      · rw [Nat.sub_self]
        unfold e_pd
        split <;> simp
    · have h2 : q_find (e_ent j (p :: P)) i = q_find (e_ent (if p = 1 then j + 2 else j + 1) P) i := by
        show q_find ((j, p) :: _) i = _
        exact e_find_tl (Ne.symm hji)
      rw [h2] at hi
      obtain ⟨h3, u, h4, h5, h6⟩ := e_ent_pd P _ xs vs h.2 i t hi
      have hget : m_get (m_ent j (v :: vs)) i = m_get (m_ent (if p = 1 then j + 2 else j + 1) vs) i := by
        show m_get ((j, v) :: m_ent (if m_isL v = true then j + 2 else j + 1) vs) i = _
        rw [hL, e_get_tl hji]
        by_cases hp : p = 1
        · simp [hp]
        · simp [hp]
      rw [hget]
      by_cases hp : p = 1
      · rw [if_pos hp] at h3 h4 h5 h6 ⊢
        refine ⟨by omega, u, h4, ?_, ?_⟩
        · unfold e_pd
          rw [if_pos hp]
          obtain ⟨m, hm⟩ : ∃ m, i - j = m + 2 := ⟨i - j - 2, by omega⟩
          rw [hm]
          rw [show i - (j + 2) = m by omega] at h5
          exact h5
        · unfold e_pd
          rw [if_pos hp]
          simp
          omega
      · rw [if_neg hp] at h3 h4 h5 h6 ⊢
        refine ⟨by omega, u, h4, ?_, ?_⟩
        · unfold e_pd
          rw [if_neg hp]
          obtain ⟨m, hm⟩ : ∃ m, i - j = m + 1 := ⟨i - j - 1, by omega⟩
          rw [hm]
          rw [show i - (j + 1) = m by omega] at h5
          exact h5
        · unfold e_pd
          rw [if_neg hp]
          simp
          omega
theorem e_pd_len : ∀ {P : List Nat} {xs : List Int} {vs : List MV}, e_vs P xs vs → (e_pd P xs).length = e_cat P
  | [], [], [], _ => rfl
  | p :: P, x :: xs, v :: vs, h => by
    have := e_pd_len h.2
    unfold e_pd e_cat
    by_cases hp : p = 1
    · rw [if_pos hp]; simp [hp, this, e_cat]; omega
    · rw [if_neg hp]; simp [hp, this, e_cat]; omega
/-- a frame's locals at its start -/
theorem e_lr_ent {u nl : Nat} {xs : List Int} {vs : List MV} (h : e_vs (e_pt u) xs vs) (hc : e_cat (e_pt u) ≤ nl) (hn : e_nl u = nl) : e_lr nl (e_ent 0 (e_pt u)) (e_pad u xs) (m_ent 0 vs) := by
  have hlen := e_pd_len h
  refine ⟨?_, fun i t hi => ?_⟩
  · unfold e_pad
    rw [List.length_append, List.length_replicate, hlen, hn]; omega
  · obtain ⟨-, v, h1, h2, h3⟩ := e_ent_pd _ _ _ _ h i t hi
    refine ⟨v, h1, ?_⟩
    unfold e_pad
    rw [List.getD_eq_getElem?_getD, List.getElem?_append_left (by simpa using h3), ← List.getD_eq_getElem?_getD]
    simpa using h2
theorem e_lb_mem {v l : Nat} {q : List (Nat × Nat) × e_X} (h : e_lb v l = some q) : (l, q) ∈ (e_prog.getD (v / 16) []).getD (v % 16) [] := q_find_mem h
/-- THE TREES RUN AS THE MACHINE DOES -/
theorem e_run_ok (ro : MRo) (hA : ∀ v, e_mok v = true) (hB : ∀ v, e_eok v = true) (hH : ∀ v, 0 < e_ht v) : ∀ (n v pc : Nat) (L : List Int) (M : EM) (r : Int × EM), e_run n v pc L M = some r → ∀ q, e_lb v pc = some q → ∀ d, e_ht v ≤ d → ∀ ML1 w, e_lr (q_nl (e_vm v)) q.1 L ML1 → e_wr ro M w → e_ends ro d (e_vm v) v pc ML1 w r := by
  intro n
  induction n with
  | zero => intro v pc L M r h; cases h
  | succ n ih =>
    intro v pc L M r h q hq d hd ML1 w hL hW
    rw [e_run] at h
    have htr : e_tr v pc = q.2 := by unfold e_tr; rw [hq]
    rw [htr] at h
    have hm := List.all_eq_true.mp (hA v) _ (e_lb_mem hq)
    dsimp only at hm
    rw [Bool.and_eq_true] at hm
    have h0 := hH v
    refine e_ct_ok (hv := e_ht v) (fun u as M' r' h' => ?_) (fun l L' M' r' h' q' hq' ML2 w2 hL2 hW2 => ih v l L' M' r' h' q' hq' d hd ML2 w2 hL2 hW2) hd (by omega) (SizeOf.sizeOf q.2) q.2 (Nat.le_refl _) q.1 pc hm.2 L M r h ML1 w hL hW
    split at h'
    · rename_i hr
      refine ⟨hr, fun d' vs w2 hd' hvs hcat hnl hW2 => ?_⟩
      cases hq2 : e_lb u 0 with
      | none =>
        exfalso
        cases n with
        | zero => cases h'
        | succ n =>
          rw [e_run] at h'
          have htr2 : e_tr u 0 = .num 0 := by unfold e_tr; rw [hq2]
          rw [htr2] at h'
          cases h'
      | some q2 =>
        have he := hB u
        unfold e_eok at he
        rw [hq2] at he
        exact ih u 0 _ _ _ h' q2 hq2 d' hd' _ w2 (e_lr_sub (e_lr_ent hvs hcat hnl) he) hW2
    · cases h'
theorem e_V_ok (ro : MRo) (hA : ∀ v, e_mok v = true) (hB : ∀ v, e_eok v = true) (hH : ∀ v, 0 < e_ht v) {v pc : Nat} {L : List Int} {M : EM} {r : Int × EM} (h : E_V v pc L M = some r) {q : List (Nat × Nat) × e_X} (hq : e_lb v pc = some q) {d : Nat} (hd : e_ht v ≤ d) {ML1 : ML} {w : MWd} (hL : e_lr (q_nl (e_vm v)) q.1 L ML1) (hW : e_wr ro M w) : e_ends ro d (e_vm v) v pc ML1 w r := by
  obtain ⟨n, hn⟩ := E_V_ex h
  exact e_run_ok ro hA hB hH n v pc L M r (hn n (Nat.le_refl _)) q hq d hd ML1 w hL hW
