theorem r_rNums_loop {x1 : Int} : ∀ (m : Nat) (M : EM), r_ty M → r_N99 M → (M 192 17 - M 192 15).toNat ≤ m → ∃ r M', E_V 180 9 [192] M = some (r, M') ∧ r_tt M M' ∧ (r = 0 ∨ r = 1) ∧ r_N99 M' := by
  intro m
  induction m with
  | zero =>
    intro M hT hN hm
    obtain ⟨s, M1, k1, t1, h1, l1⟩ := r_takesT (c := 32) hT (by decide)
    have hs : s = 0 := by
      rcases h1 with h1 | h1
      · exact h1
      · have := (l1 h1).2; omega
    subst hs
    refine ⟨1, M1, ?_, t1, Or.inr rfl, t1.2.2.2.2 hN⟩
    rw [E_V_eq]
    show e_tv E_C (E_V 180) e_t180_9 [192] M = _
    unfold e_t180_9
    simp [e_tv, e_ev, e_sv, e_b1, e_b2, x_o1, x_o2, k1]
  | succ m ih =>
    intro M hT hN hm
    obtain ⟨s, M1, k1, t1, h1, l1⟩ := r_takesT (c := 32) hT (by decide)
    rcases h1 with h1 | h1
    · subst h1
      refine ⟨1, M1, ?_, t1, Or.inr rfl, t1.2.2.2.2 hN⟩
      rw [E_V_eq]
      show e_tv E_C (E_V 180) e_t180_9 [192] M = _
      unfold e_t180_9
      simp [e_tv, e_ev, e_sv, e_b1, e_b2, x_o1, x_o2, k1]
    · subst h1
      have T1 := r_tt_ty hT t1
      obtain ⟨r, M2, k2, t2, h2, l2⟩ := r_rNum T1
      have t12 := r_tt_tr t1 t2
      rcases h2 with h2 | h2
      · subst h2
        refine ⟨0, M2, ?_, t12, Or.inl rfl, t12.2.2.2.2 hN⟩
        rw [E_V_eq]
        show e_tv E_C (E_V 180) e_t180_9 [192] M = _
        unfold e_t180_9
        simp [e_tv, e_ev, e_sv, e_b1, e_b2, x_o1, x_o2, k1, k2]
      · subst h2
        have T2 := r_tt_ty T1 t2
        have e17 := r_tt_17 t12
        have p1 := (l1 rfl).1
        have p2 := (l2 rfl).1
        obtain ⟨r', M3, k3, t3, h3, l3⟩ := ih M2 T2 (t12.2.2.2.2 hN) (by omega)
        refine ⟨r', M3, ?_, r_tt_tr t12 t3, h3, l3⟩
        rw [E_V_eq]
        show e_tv E_C (E_V 180) e_t180_9 [192] M = _
        unfold e_t180_9
        simp [e_tv, e_ev, e_sv, e_b1, e_b2, x_o1, x_o2, k1, k2, k3]
theorem r_rNums {M : EM} (hT : r_ty M) : ∃ r M', E_C 180 [192] M = some (r, M') ∧ r_tt M M' ∧ (r = 0 ∨ r = 1) ∧ (r = 1 → M 192 15 < M' 192 15 ∧ r_N99 M') := by
  obtain ⟨r, M1, k1, t1, h1, l1⟩ := r_rNum hT
  rcases h1 with h1 | h1
  · subst h1
    refine ⟨0, M1, ?_, t1, Or.inl rfl, fun h => absurd h (by decide)⟩
    rw [r_ent (show e_rok 180 [192] = true from decide_eq_true r_ref)]
    show e_tv E_C (E_V 180) e_t180_0 [192] M = _
    unfold e_t180_0
    simp [e_tv, e_ev, e_sv, e_b1, e_b2, x_o1, x_o2, k1]
  · subst h1
    obtain ⟨p1, n1⟩ := l1 rfl
    obtain ⟨r, M2, k2, t2, h2, n2⟩ := r_rNums_loop (x1 := 0) _ M1 (r_tt_ty hT t1) n1 (Nat.le_refl _)
    refine ⟨r, M2, ?_, r_tt_tr t1 t2, h2, fun _ => ⟨by have := t2.2.2.1; omega, n2⟩⟩
    rw [r_ent (show e_rok 180 [192] = true from decide_eq_true r_ref)]
    show e_tv E_C (E_V 180) e_t180_0 [192] M = _
    unfold e_t180_0
    simp [e_tv, e_ev, e_sv, e_b1, e_b2, x_o1, x_o2, k1, k2]
theorem r_rPoint {M : EM} (hT : r_ty M) : ∃ r M', E_C 181 [192] M = some (r, M') ∧ r_tt M M' ∧ (r = 0 ∨ r = 1) ∧ (r = 1 → M 192 15 < M' 192 15 ∧ r_N99 M') := by
  obtain ⟨r, M1, k1, t1, h1, l1⟩ := r_rNum hT
  rcases h1 with h1 | h1
  · subst h1
    refine ⟨0, M1, ?_, t1, Or.inl rfl, fun h => absurd h (by decide)⟩
    rw [r_ent (show e_rok 181 [192] = true from decide_eq_true r_ref)]
    show e_tv E_C (E_V 181) e_t181_0 [192] M = _
    unfold e_t181_0
    simp [e_tv, e_ev, e_sv, e_b1, e_b2, x_o1, x_o2, k1]
  · subst h1
    obtain ⟨p1, n1⟩ := l1 rfl
    have T1 := r_tt_ty hT t1
    obtain ⟨s, M2, k2, t2, h2, l2⟩ := r_takesT (c := 47) T1 (by decide)
    rcases h2 with h2 | h2
    · subst h2
      refine ⟨0, M2, ?_, r_tt_tr t1 t2, Or.inl rfl, fun h => absurd h (by decide)⟩
      rw [r_ent (show e_rok 181 [192] = true from decide_eq_true r_ref)]
      show e_tv E_C (E_V 181) e_t181_0 [192] M = _
      unfold e_t181_0
      simp [e_tv, e_ev, e_sv, e_b1, e_b2, x_o1, x_o2, k1, k2]
    · subst h2
      have T2 := r_tt_ty T1 t2
      obtain ⟨r, M3, k3, t3, h3, l3⟩ := r_rNum T2
      refine ⟨r, M3, ?_, r_tt_tr t1 (r_tt_tr t2 t3), h3, fun h => ⟨by have := (l3 h).1; have := t2.2.2.1; omega, (l3 h).2⟩⟩
      rw [r_ent (show e_rok 181 [192] = true from decide_eq_true r_ref)]
      show e_tv E_C (E_V 181) e_t181_0 [192] M = _
      unfold e_t181_0
      rcases h3 with h3 | h3
      · subst h3
        simp [e_tv, e_ev, e_sv, e_b1, e_b2, x_o1, x_o2, k1, k2, k3]
      · subst h3
        simp [e_tv, e_ev, e_sv, e_b1, e_b2, x_o1, x_o2, k1, k2, k3]
theorem r_rItem {M : EM} (hT : r_ty M) : ∃ r M', E_C 182 [192] M = some (r, M') ∧ r_tt M M' ∧ (r = 0 ∨ r = 1) ∧ (r = 1 → M 192 15 < M' 192 15 ∧ r_N99 M') := by
  obtain ⟨s, M1, k1, t1, h1, l1⟩ := r_takesT (c := 91) hT (by decide)
  have T1 := r_tt_ty hT t1
  rcases h1 with h1 | h1
  · subst h1
    obtain ⟨r, M3, k3, t3, h3, l3⟩ := r_rNum T1
    refine ⟨r, M3, ?_, r_tt_tr t1 t3, h3, fun h => ⟨by have := (l3 h).1; have := t1.2.2.1; omega, (l3 h).2⟩⟩
    rw [r_ent (show e_rok 182 [192] = true from decide_eq_true r_ref)]
    show e_tv E_C (E_V 182) e_t182_0 [192] M = _
    unfold e_t182_0
    simp [e_tv, e_ev, e_sv, e_b1, e_b2, x_o1, x_o2, k1, k3]
  · subst h1
    obtain ⟨r, M2, k2, t2, h2, l2⟩ := r_rNums T1
    have T2 := r_tt_ty T1 t2
    rcases h2 with h2 | h2
    · subst h2
      refine ⟨0, M2, ?_, r_tt_tr t1 t2, Or.inl rfl, fun h => absurd h (by decide)⟩
      rw [r_ent (show e_rok 182 [192] = true from decide_eq_true r_ref)]
      show e_tv E_C (E_V 182) e_t182_0 [192] M = _
      unfold e_t182_0
      simp [e_tv, e_ev, e_sv, e_b1, e_b2, x_o1, x_o2, k1, k2]
    · subst h2
      obtain ⟨p2, n2⟩ := l2 rfl
      obtain ⟨s, M3, k3, t3, h3, l3⟩ := r_takesT (c := 93) T2 (by decide)
      refine ⟨s, M3, ?_, r_tt_tr t1 (r_tt_tr t2 t3), h3, fun h => ⟨by have := t1.2.2.1; have := t3.2.2.1; omega, t3.2.2.2.2 n2⟩⟩
      rw [r_ent (show e_rok 182 [192] = true from decide_eq_true r_ref)]
      show e_tv E_C (E_V 182) e_t182_0 [192] M = _
      unfold e_t182_0
      rcases h3 with h3 | h3
      · subst h3
        simp [e_tv, e_ev, e_sv, e_b1, e_b2, x_o1, x_o2, k1, k2, k3]
      · subst h3
        simp [e_tv, e_ev, e_sv, e_b1, e_b2, x_o1, x_o2, k1, k2, k3]
theorem r_rS132 {x1 : Int} {M : EM} (hT : r_ty M) (hN : r_N99 M) : ∃ r M', E_V 183 132 [192, x1] M = some (r, M') ∧ r_tt M M' ∧ (r = 0 ∨ r = 1) ∧ r_N99 M' := by
  obtain ⟨s, M3, k3, t3, h3, l3⟩ := r_takesT (c := 59) hT (by decide)
  refine ⟨s, M3, ?_, t3, h3, t3.2.2.2.2 hN⟩
  rw [E_V_eq]
  show e_tv E_C (E_V 183) e_t183_132 [192, x1] M = _
  unfold e_t183_132
  simp [e_tv, e_ev, e_sv, e_b1, e_b2, x_o1, x_o2, k3]
