/-! the reference makes a CELL: exactly -/
theorem y_c4y {P I x4 x5 pos k1 pos2 k2 a c ia ib : Int} {na nb : Nat} {M M1 M2 M3 M4 N1 : EM} {t u : Int} (h15 : M 192 15 = pos) (w1 : e_w (pos + 1) = k1) (hM1 : e_up M 192 15 k1 = M1) (g2 : E_C 179 [192] M1 = some (t, M2)) (n1 : M2 192 18 = a) (h15' : M2 192 15 = pos2) (w2 : e_w (pos2 + 1) = k2) (hM3 : e_up M2 192 15 k2 = M3) (g4 : E_C 179 [192] M3 = some (u, M4)) (n2 : M4 192 18 = c) (c1 : I < 6) (v1 : e_w (28 * P) = 28 * P) (v2 : e_w (28 * P + 3) = 28 * P + 3) (v3 : e_w (28 * P + 3 + I) = ia) (v4 : e_w (28 * P + 9) = 28 * P + 9) (v5 : e_w (28 * P + 9 + I) = ib) (v6 : e_w (I + 1) = I + 1) (s1 : ∀ v, e_st 100 [193, ia, v] M4 = some (e_up M4 193 na v)) (s2 : ∀ v M, e_st 100 [193, ib, v] M = some (e_up M 193 nb v)) (hN1 : e_up (e_up M4 193 na a) 193 nb c = N1) : E_V 184 4 [192, P, I, 1, x4, x5] M = E_V 184 101 [192, P, I + 1, 1, u, a] N1 := by
  rw [E_V_eq]
  show e_tv E_C (E_V 184) e_t184_4 [192, P, I, 1, x4, x5] M = _
  unfold e_t184_4
  simp [e_tv, e_ev, e_sv, e_b1, e_b2, x_o1, x_o2, r_O0, r_F15, r_F18, r_P15, y_n192, h15, w1, hM1, g2, n1, h15', w2, hM3, g4, n2, c1, v1, v2, v3, v4, v5, v6, s1, s2, hN1]
theorem y_c4n {P I x3 x4 x5 pos k1 pos2 k2 a : Int} {M M1 M2 M3 M4 : EM} {t u : Int} (h15 : M 192 15 = pos) (w1 : e_w (pos + 1) = k1) (hM1 : e_up M 192 15 k1 = M1) (g2 : E_C 179 [192] M1 = some (t, M2)) (n1 : M2 192 18 = a) (h15' : M2 192 15 = pos2) (w2 : e_w (pos2 + 1) = k2) (hM3 : e_up M2 192 15 k2 = M3) (g4 : E_C 179 [192] M3 = some (u, M4)) (hx : x3 = 0 ∨ ¬ I < 6) : E_V 184 4 [192, P, I, x3, x4, x5] M = E_V 184 101 [192, P, I, 0, u, a] M4 := by
  by_cases c0 : x3 = 0
  · subst c0
    rw [E_V_eq]
    show e_tv E_C (E_V 184) e_t184_4 [192, P, I, 0, x4, x5] M = _
    unfold e_t184_4
    simp [e_tv, e_ev, e_sv, e_b1, e_b2, x_o1, x_o2, r_O0, r_F15, r_F18, r_P15, h15, w1, hM1, g2, n1, h15', w2, hM3, g4]
  · have c1 : ¬ I < 6 := hx.resolve_left c0
    have c2 : 6 ≤ I := by
      clear w1 w2
      omega
    rw [E_V_eq]
    show e_tv E_C (E_V 184) e_t184_4 [192, P, I, x3, x4, x5] M = _
    unfold e_t184_4
    simp [e_tv, e_ev, e_sv, e_b1, e_b2, x_o1, x_o2, r_O0, r_F15, r_F18, r_P15, h15, w1, hM1, g2, n1, h15', w2, hM3, g4, c0, c1, c2]
theorem y_c101a {P I x3 x4 x5 : Int} {M : EM} (ks : E_C 177 [192] M = some (32, M)) : E_V 184 101 [192, P, I, x3, x4, x5] M = E_V 184 4 [192, P, I, x3, x4, x5] M := by
  rw [E_V_eq]
  show e_tv E_C (E_V 184) e_t184_101 [192, P, I, x3, x4, x5] M = _
  unfold e_t184_101
  simp [e_tv, e_ev, e_sv, e_b1, e_b2, x_o1, x_o2, ks]
/-- the CURVE's points, as the row g holds them -/
def y_up (g : Int → Int) (P : Int) (j : Int) : Prop := g (28 * P + 3 + (j - 1)) < g (28 * P + 3 + j) ∧ g (28 * P + 9 + j) < g (28 * P + 8 + j)
theorem y_c184s {P I x4 x5 : Int} {M : EM} (hp : 0 ≤ P ∧ P < 40) (h4 : 1 ≤ x4 ∧ x4 < I) (hI : I ≤ 6) : (y_up (r_G M) P x4 → E_V 184 184 [192, P, I, 1, x4, x5] M = E_V 184 184 [192, P, I, 1, x4 + 1, x5] M) ∧ (¬ y_up (r_G M) P x4 → E_V 184 184 [192, P, I, 1, x4, x5] M = E_V 184 184 [192, P, I, 0, x4 + 1, x5] M) := by
  have k1 : E_C 172 [192, P, x4] M = some (r_G M (28 * P + 3 + x4), M) := r_of (M := M) (p := P) (k := x4) hp ⟨by omega, by omega⟩
  have k2 : E_C 172 [192, P, x4 - 1] M = some (r_G M (28 * P + 3 + (x4 - 1)), M) := r_of (M := M) (p := P) (k := x4 - 1) hp ⟨by omega, by omega⟩
  have l1 : e_op 60 [193, 28 * P + 9 + x4] M = some (r_G M (28 * P + 9 + x4)) := r_rd (by omega) (by omega)
  have l2 : e_op 60 [193, 28 * P + 8 + x4] M = some (r_G M (28 * P + 8 + x4)) := r_rd (by omega) (by omega)
  have ww : e_w (28 * P) = 28 * P ∧ e_w (28 * P + 9) = 28 * P + 9 ∧ e_w (28 * P + 9 + x4) = 28 * P + 9 + x4 ∧ e_w (28 * P + 8) = 28 * P + 8 ∧ e_w (28 * P + 8 + x4) = 28 * P + 8 + x4 ∧ e_w (x4 - 1) = x4 - 1 ∧ e_w (x4 + 1) = x4 + 1 := by
    refine ⟨?_, ?_, ?_, ?_, ?_, ?_, ?_⟩ <;> exact a_w_id (by omega) (by omega)
  obtain ⟨w1, w2, w3, w4, w5, w6, w7⟩ := ww
  unfold y_up
  have q := h4.2
  generalize r_G M (28 * P + 3 + x4) = A at k1 ⊢
  generalize r_G M (28 * P + 3 + (x4 - 1)) = B at k2 ⊢
  generalize r_G M (28 * P + 9 + x4) = C at l1 ⊢
  generalize r_G M (28 * P + 8 + x4) = D at l2 ⊢
  rcases x_lt B A with ⟨c1, c1_n⟩ | ⟨c1, c1_n⟩
  · rcases x_lt C D with ⟨c2, c2_n⟩ | ⟨c2, c2_n⟩
    · refine ⟨fun _ => ?_, fun h => absurd ⟨c1, c2⟩ h⟩
      rw [E_V_eq]
      show e_tv E_C (E_V 184) e_t184_184 [192, P, I, 1, x4, x5] M = _
      unfold e_t184_184
      simp [e_tv, e_ev, e_sv, e_b1, e_b2, x_o1, x_o2, r_O0, q, w1, w2, w3, w4, w5, w6, w7, k1, k2, l1, l2, c1, c1_n, c2, c2_n]
    · refine ⟨fun h => absurd h.2 c2, fun _ => ?_⟩
      rw [E_V_eq]
      show e_tv E_C (E_V 184) e_t184_184 [192, P, I, 1, x4, x5] M = _
      unfold e_t184_184
      simp [e_tv, e_ev, e_sv, e_b1, e_b2, x_o1, x_o2, r_O0, q, w1, w2, w3, w4, w5, w6, w7, k1, k2, l1, l2, c1, c1_n, c2, c2_n]
  · refine ⟨fun h => absurd h.1 c1, fun _ => ?_⟩
    rw [E_V_eq]
    show e_tv E_C (E_V 184) e_t184_184 [192, P, I, 1, x4, x5] M = _
    unfold e_t184_184
    simp [e_tv, e_ev, e_sv, e_b1, e_b2, x_o1, x_o2, r_O0, q, w6, w7, k1, k2, c1, c1_n]
theorem y_c184z {P I x4 x5 : Int} {M : EM} (h : x4 < I) (w7 : e_w (x4 + 1) = x4 + 1) : E_V 184 184 [192, P, I, 0, x4, x5] M = E_V 184 184 [192, P, I, 0, x4 + 1, x5] M := by
  rw [E_V_eq]
  show e_tv E_C (E_V 184) e_t184_184 [192, P, I, 0, x4, x5] M = _
  unfold e_t184_184
  simp [e_tv, e_ev, e_sv, e_b1, e_b2, x_o1, x_o2, h, w7]
theorem y_c184e {P I x3 x4 x5 : Int} {M : EM} (h : ¬ x4 < I) : E_V 184 184 [192, P, I, x3, x4, x5] M = some (x3, M) := by
  rw [E_V_eq]
  show e_tv E_C (E_V 184) e_t184_184 [192, P, I, x3, x4, x5] M = _
  unfold e_t184_184
  simp [e_tv, e_ev, e_sv, e_b1, e_b2, x_o1, x_o2, h]
theorem y_c184 {P I x5 : Int} {M : EM} (hp : 0 ≤ P ∧ P < 40) (hI : I ≤ 6) : ∀ (m : Nat) (x4 : Int), (I - x4).toNat ≤ m → 1 ≤ x4 → E_V 184 184 [192, P, I, 0, x4, x5] M = some (0, M) ∧ ∃ r, E_V 184 184 [192, P, I, 1, x4, x5] M = some (r, M) ∧ ((r = 1 ∧ ∀ j, x4 ≤ j → j < I → y_up (r_G M) P j) ∨ (r = 0 ∧ ∃ j, x4 ≤ j ∧ j < I ∧ ¬ y_up (r_G M) P j)) := by
  intro m
  induction m with
  | zero =>
    intro x4 hm h4
    have q : ¬ (x4 < I) := by omega
    exact ⟨y_c184e q, 1, y_c184e q, Or.inl ⟨rfl, fun j h1 h2 => by omega⟩⟩
  | succ m ih =>
    intro x4 hm h4
    rcases x_lt x4 I with ⟨q, q_n⟩ | ⟨q, q_n⟩
    · obtain ⟨i1, r, i2, i3⟩ := ih (x4 + 1) (by omega) (by omega)
      have w7 : e_w (x4 + 1) = x4 + 1 := a_w_id (by omega) (by omega)
      obtain ⟨s1, s2⟩ := y_c184s (x5 := x5) (M := M) hp ⟨h4, q⟩ hI
      refine ⟨(y_c184z q w7).trans i1, ?_⟩
      clear w7
      by_cases c : y_up (r_G M) P x4
      · refine ⟨r, (s1 c).trans i2, ?_⟩
        rcases i3 with ⟨e, i3⟩ | ⟨e, j, j1, j2, j3⟩
        · exact Or.inl ⟨e, fun j h1 h2 => by
            by_cases e : j = x4
            · rw [e]; exact c
            · exact i3 j (by omega) h2⟩
        · exact Or.inr ⟨e, j, by omega, j2, j3⟩
      · exact ⟨0, (s2 c).trans i1, Or.inr ⟨rfl, x4, Int.le_refl _, q, c⟩⟩
    · exact ⟨y_c184e q, 1, y_c184e q, Or.inl ⟨rfl, fun j h1 h2 => by omega⟩⟩
