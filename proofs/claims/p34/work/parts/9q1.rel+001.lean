def p_sn2 (M : EM) (h d l : Int) : EM := e_up (e_up M 30 h.toNat d) 31 h.toNat l
theorem p_sun {h d l : Int} {M : EM} : E_C 119 [8, h, d, l] M = if (0 ≤ h ∧ h ≤ 11) ∧ (0 ≤ d ∧ d ≤ 7) ∧ 0 ≤ l ∧ l ≤ 30 then some (e_w (e_w (100 * M 30 h.toNat) + M 31 h.toNat), p_sn2 M h d l) else some (-1, M) := by
  have s0 : E_C 119 [8, h, d, l] M = e_tv E_C (E_V 119) e_t119_0 [8, h, d, l, 0, 0] M := r_ent (u := 119) (as := [8, h, d, l]) (M := M) (decide_eq_true c_this)
  rw [s0]
  unfold e_t119_0
  have hh := p_hour h
  by_cases q : 0 ≤ h ∧ h ≤ 11
  · simp only [if_pos q] at hh
    rcases x_le 0 d with ⟨b0, b0_n⟩ | ⟨b0, b0_n⟩
    · rcases x_le d 7 with ⟨b1, b1_n⟩ | ⟨b1, b1_n⟩
      · rcases x_le 0 l with ⟨e0, e0_n⟩ | ⟨e0, e0_n⟩
        · rcases x_lt 30 l with ⟨e1, e1_n⟩ | ⟨e1, e1_n⟩
          · rw [if_neg (by omega)]
            simp [e_tv, e_ev, e_sv, e_b1, e_b2, x_o1, x_o2, hh, b0, b0_n, b1, b1_n, e0, e0_n, e1, e1_n]
          · rw [if_pos (by omega)]
            have t0 := fun M => p_at (a := 30) (i := h) (n := 12) (by decide +kernel) ⟨q.1, by omega⟩ M
            have t1 := fun M => p_at (a := 31) (i := h) (n := 12) (by decide +kernel) ⟨q.1, by omega⟩ M
            have l0 := fun v M => p_layd (a := 30) (i := h) (v := v) (n := 12) (by decide +kernel) ⟨q.1, by omega⟩ M
            have l1 := fun v M => p_layd (a := 31) (i := h) (v := v) (n := 12) (by decide +kernel) ⟨q.1, by omega⟩ M
            unfold p_sn2
            simp [e_tv, e_ev, e_sv, e_b1, e_b2, x_o1, x_o2, p_704, p_195, p_387, p_388, t0, t1, l0, l1, hh, b0, b0_n, b1, b1_n, e0, e0_n, e1, e1_n]
        · rw [if_neg (by omega)]
          simp [e_tv, e_ev, e_sv, e_b1, e_b2, x_o1, x_o2, hh, b0, b0_n, b1, b1_n, e0, e0_n]
      · rw [if_neg (by omega)]
        simp [e_tv, e_ev, e_sv, e_b1, e_b2, x_o1, x_o2, hh, b0, b0_n, b1, b1_n]
    · rw [if_neg (by omega)]
      simp [e_tv, e_ev, e_sv, e_b1, e_b2, x_o1, x_o2, hh, b0, b0_n]
  · simp only [if_neg q] at hh
    rw [if_neg (by omega)]
    simp [e_tv, e_ev, e_sv, e_b1, e_b2, x_o1, x_o2, hh]
def p_tr2 (M : EM) (h t : Int) : EM := e_up (e_up M 34 h.toNat (t / 100)) 35 h.toNat (t % 100)
theorem p_trade {h t : Int} {M : EM} (ht : t ≤ 2147483647) : E_C 128 [8, h, t] M = if (0 ≤ h ∧ h ≤ 11) ∧ 0 ≤ t ∧ t / 100 ≤ 20 then some (e_w (e_w (100 * M 34 h.toNat) + M 35 h.toNat), p_tr2 M h t) else some (-1, M) := by
  have s0 : E_C 128 [8, h, t] M = e_tv E_C (E_V 128) e_t128_0 [8, h, t, 0, 0] M := r_ent (u := 128) (as := [8, h, t]) (M := M) (decide_eq_true c_this)
  rw [s0]
  unfold e_t128_0
  have hh := p_hour h
  by_cases q : 0 ≤ h ∧ h ≤ 11
  · simp only [if_pos q] at hh
    rcases x_le 0 t with ⟨e0, e0_n⟩ | ⟨e0, e0_n⟩
    · rcases x_lt 2099 t with ⟨e1, e1_n⟩ | ⟨e1, e1_n⟩
      · rw [if_neg (by omega)]
        simp [e_tv, e_ev, e_sv, e_b1, e_b2, x_o1, x_o2, hh, e0, e0_n, e1, e1_n]
      · rw [if_pos (by omega)]
        obtain ⟨z1, z2⟩ := r_sq (v := t) (c := 100) ⟨e0, ht⟩ (by decide)
        have t0 := fun M => p_at (a := 34) (i := h) (n := 12) (by decide +kernel) ⟨q.1, by omega⟩ M
        have t1 := fun M => p_at (a := 35) (i := h) (n := 12) (by decide +kernel) ⟨q.1, by omega⟩ M
        have l0 := fun v M => p_layd (a := 34) (i := h) (v := v) (n := 12) (by decide +kernel) ⟨q.1, by omega⟩ M
        have l1 := fun v M => p_layd (a := 35) (i := h) (v := v) (n := 12) (by decide +kernel) ⟨q.1, by omega⟩ M
        unfold p_tr2
        simp [e_tv, e_ev, e_sv, e_b1, e_b2, x_o1, x_o2, p_704, p_196, p_576, p_577, t0, t1, l0, l1, hh, e0, e0_n, e1, e1_n, z1, z2]
    · rw [if_neg (by omega)]
      simp [e_tv, e_ev, e_sv, e_b1, e_b2, x_o1, x_o2, hh, e0, e0_n]
  · simp only [if_neg q] at hh
    rw [if_neg (by omega)]
    simp [e_tv, e_ev, e_sv, e_b1, e_b2, x_o1, x_o2, hh]
theorem p_room {n : Int} {M : EM} : E_C 129 [8, n] M = if 0 ≤ n ∧ n ≤ 30 then some (M 33 2, e_up M 33 2 n) else some (-1, M) := by
  have s0 : E_C 129 [8, n] M = e_tv E_C (E_V 129) e_t129_0 [8, n, 0] M := r_ent (u := 129) (as := [8, n]) (M := M) (decide_eq_true c_this)
  rw [s0]
  unfold e_t129_0
  rcases x_le 0 n with ⟨e0, e0_n⟩ | ⟨e0, e0_n⟩
  · rcases x_lt 30 n with ⟨e1, e1_n⟩ | ⟨e1, e1_n⟩
    · rw [if_neg (by omega)]
      simp [e_tv, e_ev, e_sv, e_b1, e_b2, x_o1, x_o2, e0, e0_n, e1, e1_n]
    · rw [if_pos (by omega)]
      simp [e_tv, e_ev, e_sv, e_b1, e_b2, x_o1, x_o2, p_704, p_196, p_578, p_p578, e0, e0_n, e1, e1_n]
  · rw [if_neg (by omega)]
    simp [e_tv, e_ev, e_sv, e_b1, e_b2, x_o1, x_o2, e0, e0_n]

