theorem r_rS56 {x1 : Int} : ∀ (m : Nat) (M : EM), r_ty M → r_N99 M → (M 192 17 - M 192 15).toNat ≤ m → ∃ r M', E_V 183 56 [192, x1] M = some (r, M') ∧ r_tt M M' ∧ (r = 0 ∨ r = 1) ∧ r_N99 M' := by
  intro m
  induction m with
  | zero =>
    intro M hT hN hm
    obtain ⟨s, M1, k1, t1, h1, l1⟩ := r_takesT (c := 32) hT (by decide)
    have hs : s = 0 := by
      rcases h1 with h1 | h1
      · exact h1
      · have := (l1 h1).2; omega
    subst hs
    obtain ⟨r, M2, k2, t2, h2, n2⟩ := r_rS132 (x1 := x1) (r_tt_ty hT t1) (t1.2.2.2.2 hN)
    refine ⟨r, M2, ?_, r_tt_tr t1 t2, h2, n2⟩
    rw [E_V_eq]
    show e_tv E_C (E_V 183) e_t183_56 [192, x1] M = _
    unfold e_t183_56
    simp [e_tv, e_ev, e_sv, e_b1, e_b2, x_o1, x_o2, k1, k2]
  | succ m ih =>
    intro M hT hN hm
    obtain ⟨s, M1, k1, t1, h1, l1⟩ := r_takesT (c := 32) hT (by decide)
    rcases h1 with h1 | h1
    · subst h1
      obtain ⟨r, M2, k2, t2, h2, n2⟩ := r_rS132 (x1 := x1) (r_tt_ty hT t1) (t1.2.2.2.2 hN)
      refine ⟨r, M2, ?_, r_tt_tr t1 t2, h2, n2⟩
      rw [E_V_eq]
      show e_tv E_C (E_V 183) e_t183_56 [192, x1] M = _
      unfold e_t183_56
      simp [e_tv, e_ev, e_sv, e_b1, e_b2, x_o1, x_o2, k1, k2]
    · subst h1
      have T1 := r_tt_ty hT t1
      obtain ⟨r, M2, k2, t2, h2, l2⟩ := r_rPoint T1
      have t12 := r_tt_tr t1 t2
      rcases h2 with h2 | h2
      · subst h2
        refine ⟨0, M2, ?_, t12, Or.inl rfl, t12.2.2.2.2 hN⟩
        rw [E_V_eq]
        show e_tv E_C (E_V 183) e_t183_56 [192, x1] M = _
        unfold e_t183_56
        simp [e_tv, e_ev, e_sv, e_b1, e_b2, x_o1, x_o2, k1, k2]
      · subst h2
        have T2 := r_tt_ty T1 t2
        have e17 := r_tt_17 t12
        have p1 := (l1 rfl).1
        have p2 := (l2 rfl).1
        obtain ⟨r', M3, k3, t3, h3, l3⟩ := ih M2 T2 (t12.2.2.2.2 hN) (by omega)
        refine ⟨r', M3, ?_, r_tt_tr t12 t3, h3, l3⟩
        rw [E_V_eq]
        show e_tv E_C (E_V 183) e_t183_56 [192, x1] M = _
        unfold e_t183_56
        simp [e_tv, e_ev, e_sv, e_b1, e_b2, x_o1, x_o2, k1, k2, k3]
theorem r_rS89 {x1 : Int} : ∀ (m : Nat) (M : EM), r_ty M → r_N99 M → (M 192 17 - M 192 15).toNat ≤ m → ∃ r M', E_V 183 89 [192, x1] M = some (r, M') ∧ r_tt M M' ∧ (r = 0 ∨ r = 1) ∧ r_N99 M' := by
  intro m
  induction m with
  | zero =>
    intro M hT hN hm
    obtain ⟨s, M1, k1, t1, h1, l1⟩ := r_takesT (c := 32) hT (by decide)
    have hs : s = 0 := by
      rcases h1 with h1 | h1
      · exact h1
      · have := (l1 h1).2; omega
    subst hs
    obtain ⟨r, M2, k2, t2, h2, n2⟩ := r_rS132 (x1 := x1) (r_tt_ty hT t1) (t1.2.2.2.2 hN)
    refine ⟨r, M2, ?_, r_tt_tr t1 t2, h2, n2⟩
    rw [E_V_eq]
    show e_tv E_C (E_V 183) e_t183_89 [192, x1] M = _
    unfold e_t183_89
    simp [e_tv, e_ev, e_sv, e_b1, e_b2, x_o1, x_o2, k1, k2]
  | succ m ih =>
    intro M hT hN hm
    obtain ⟨s, M1, k1, t1, h1, l1⟩ := r_takesT (c := 32) hT (by decide)
    rcases h1 with h1 | h1
    · subst h1
      obtain ⟨r, M2, k2, t2, h2, n2⟩ := r_rS132 (x1 := x1) (r_tt_ty hT t1) (t1.2.2.2.2 hN)
      refine ⟨r, M2, ?_, r_tt_tr t1 t2, h2, n2⟩
      rw [E_V_eq]
      show e_tv E_C (E_V 183) e_t183_89 [192, x1] M = _
      unfold e_t183_89
      simp [e_tv, e_ev, e_sv, e_b1, e_b2, x_o1, x_o2, k1, k2]
    · subst h1
      have T1 := r_tt_ty hT t1
      obtain ⟨r, M2, k2, t2, h2, l2⟩ := r_rItem T1
      have t12 := r_tt_tr t1 t2
      rcases h2 with h2 | h2
      · subst h2
        refine ⟨0, M2, ?_, t12, Or.inl rfl, t12.2.2.2.2 hN⟩
        rw [E_V_eq]
        show e_tv E_C (E_V 183) e_t183_89 [192, x1] M = _
        unfold e_t183_89
        simp [e_tv, e_ev, e_sv, e_b1, e_b2, x_o1, x_o2, k1, k2]
      · subst h2
        have T2 := r_tt_ty T1 t2
        have e17 := r_tt_17 t12
        have p1 := (l1 rfl).1
        have p2 := (l2 rfl).1
        obtain ⟨r', M3, k3, t3, h3, l3⟩ := ih M2 T2 (t12.2.2.2.2 hN) (by omega)
        refine ⟨r', M3, ?_, r_tt_tr t12 t3, h3, l3⟩
        rw [E_V_eq]
        show e_tv E_C (E_V 183) e_t183_89 [192, x1] M = _
        unfold e_t183_89
        simp [e_tv, e_ev, e_sv, e_b1, e_b2, x_o1, x_o2, k1, k2, k3]
theorem r_rStat {M : EM} (hT : r_ty M) : ∃ r M', E_C 183 [192] M = some (r, M') ∧ r_tt M M' ∧ (r = 0 ∨ r = 1) ∧ (r = 1 → M 192 15 < M' 192 15 ∧ r_N99 M') := by
  have ks := r_sign hT
  generalize hc : r_sg M = c at ks
  by_cases q : c ≠ 99 ∧ c ≠ 114 ∧ c ≠ 102 ∧ c ≠ 98
  · obtain ⟨q1, q2, q3, q4⟩ := q
    refine ⟨0, M, ?_, r_tt_rf hT.1, Or.inl rfl, fun h => absurd h (by decide)⟩
    rw [r_ent (show e_rok 183 [192] = true from decide_eq_true r_ref)]
    show e_tv E_C (E_V 183) e_t183_0 [192, 0] M = _
    unfold e_t183_0
    simp [e_tv, e_ev, e_sv, e_b1, e_b2, x_o1, x_o2, ks, q1, q2, q3, q4]
  · have hl := r_sg_lt hc (by omega)
    have t1 := r_tt_on hT hl
    have T1 := r_tt_ty hT t1
    have hT' := hT
    obtain ⟨b1, b2, b3, b4, b5, b6⟩ := hT'
    have w1 : e_w (M 192 15 + 1) = M 192 15 + 1 := a_w_id (by omega) (by omega)
    have p1 : (e_up M 192 15 (M 192 15 + 1)) 192 15 = M 192 15 + 1 := c_up_s
    generalize hM1 : e_up M 192 15 (M 192 15 + 1) = M1 at t1 T1 p1
    by_cases c1 : c = 99
    · subst c1
      obtain ⟨r, M2, k2, t2, h2, l2⟩ := r_rPoint T1
      rcases h2 with h2 | h2
      · subst h2
        refine ⟨0, M2, ?_, r_tt_tr t1 t2, Or.inl rfl, fun h => absurd h (by decide)⟩
        rw [r_ent (show e_rok 183 [192] = true from decide_eq_true r_ref)]
        show e_tv E_C (E_V 183) e_t183_0 [192, 0] M = _
        unfold e_t183_0
        simp [e_tv, e_ev, e_sv, e_b1, e_b2, x_o1, x_o2, r_F15, r_P15, ks, w1, hM1, k2]
      · subst h2
        obtain ⟨p2, n2⟩ := l2 rfl
        obtain ⟨r, M3, k3, t3, h3, n3⟩ := r_rS56 (x1 := 99) _ M2 (r_tt_ty T1 t2) n2 (Nat.le_refl _)
        refine ⟨r, M3, ?_, r_tt_tr t1 (r_tt_tr t2 t3), h3, fun _ => ⟨by have := t3.2.2.1; omega, n3⟩⟩
        rw [r_ent (show e_rok 183 [192] = true from decide_eq_true r_ref)]
        show e_tv E_C (E_V 183) e_t183_0 [192, 0] M = _
        unfold e_t183_0
        simp [e_tv, e_ev, e_sv, e_b1, e_b2, x_o1, x_o2, r_F15, r_P15, ks, w1, hM1, k2, k3]
    · by_cases c2 : c = 114
      · subst c2
        obtain ⟨r, M2, k2, t2, h2, l2⟩ := r_rItem T1
        rcases h2 with h2 | h2
        · subst h2
          refine ⟨0, M2, ?_, r_tt_tr t1 t2, Or.inl rfl, fun h => absurd h (by decide)⟩
          rw [r_ent (show e_rok 183 [192] = true from decide_eq_true r_ref)]
          show e_tv E_C (E_V 183) e_t183_0 [192, 0] M = _
          unfold e_t183_0
          simp [e_tv, e_ev, e_sv, e_b1, e_b2, x_o1, x_o2, r_F15, r_P15, ks, w1, hM1, k2]
        · subst h2
          obtain ⟨p2, n2⟩ := l2 rfl
          obtain ⟨r, M3, k3, t3, h3, n3⟩ := r_rS89 (x1 := 114) _ M2 (r_tt_ty T1 t2) n2 (Nat.le_refl _)
          refine ⟨r, M3, ?_, r_tt_tr t1 (r_tt_tr t2 t3), h3, fun _ => ⟨by have := t3.2.2.1; omega, n3⟩⟩
          rw [r_ent (show e_rok 183 [192] = true from decide_eq_true r_ref)]
          show e_tv E_C (E_V 183) e_t183_0 [192, 0] M = _
          unfold e_t183_0
          simp [e_tv, e_ev, e_sv, e_b1, e_b2, x_o1, x_o2, r_F15, r_P15, ks, w1, hM1, k2, k3]
      · have k130 : ∀ M2, E_V 183 130 [192, c] M2 = some (0, M2) := by
          intro M2
          rw [E_V_eq]
          show e_tv E_C (E_V 183) e_t183_130 [192, c] M2 = _
          unfold e_t183_130
          simp [e_tv, e_ev, e_sv, e_b1, e_b2, x_o1, x_o2]
        by_cases c3 : c = 102
        · obtain ⟨r, M2, k2, t2, h2, l2⟩ := r_rNums T1
          rcases h2 with h2 | h2
          · subst h2
            refine ⟨0, M2, ?_, r_tt_tr t1 t2, Or.inl rfl, fun h => absurd h (by decide)⟩
            subst c3
            rw [r_ent (show e_rok 183 [192] = true from decide_eq_true r_ref)]
            show e_tv E_C (E_V 183) e_t183_0 [192, 0] M = _
            unfold e_t183_0
            simp [e_tv, e_ev, e_sv, e_b1, e_b2, x_o1, x_o2, r_F15, r_P15, ks, w1, hM1, k2, k130]
          · subst h2
            obtain ⟨p2, n2⟩ := l2 rfl
            obtain ⟨r, M3, k3, t3, h3, n3⟩ := r_rS132 (x1 := c) (r_tt_ty T1 t2) n2
            refine ⟨r, M3, ?_, r_tt_tr t1 (r_tt_tr t2 t3), h3, fun _ => ⟨by have := t3.2.2.1; omega, n3⟩⟩
            subst c3
            rw [r_ent (show e_rok 183 [192] = true from decide_eq_true r_ref)]
            show e_tv E_C (E_V 183) e_t183_0 [192, 0] M = _
            unfold e_t183_0
            simp [e_tv, e_ev, e_sv, e_b1, e_b2, x_o1, x_o2, r_F15, r_P15, ks, w1, hM1, k2, k3]
        · have c4 : c = 98 := by omega
          obtain ⟨r, M2, k2, t2, h2, l2⟩ := r_rNum T1
          rcases h2 with h2 | h2
          · subst h2
            refine ⟨0, M2, ?_, r_tt_tr t1 t2, Or.inl rfl, fun h => absurd h (by decide)⟩
            subst c4
            rw [r_ent (show e_rok 183 [192] = true from decide_eq_true r_ref)]
            show e_tv E_C (E_V 183) e_t183_0 [192, 0] M = _
            unfold e_t183_0
            simp [e_tv, e_ev, e_sv, e_b1, e_b2, x_o1, x_o2, r_F15, r_P15, ks, w1, hM1, k2, k130]
          · subst h2
            obtain ⟨p2, n2⟩ := l2 rfl
            obtain ⟨r, M3, k3, t3, h3, n3⟩ := r_rS132 (x1 := c) (r_tt_ty T1 t2) n2
            refine ⟨r, M3, ?_, r_tt_tr t1 (r_tt_tr t2 t3), h3, fun _ => ⟨by have := t3.2.2.1; omega, n3⟩⟩
            subst c4
            rw [r_ent (show e_rok 183 [192] = true from decide_eq_true r_ref)]
            show e_tv E_C (E_V 183) e_t183_0 [192, 0] M = _
            unfold e_t183_0
            simp [e_tv, e_ev, e_sv, e_b1, e_b2, x_o1, x_o2, r_F15, r_P15, ks, w1, hM1, k2, k3]

