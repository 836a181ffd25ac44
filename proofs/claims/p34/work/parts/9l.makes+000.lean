theorem r_pos_up {M : EM} (h : r_ty M) (hl : M 192 15 ≤ 999) : r_ty (e_up M 192 15 (M 192 15 + 1)) := by
  obtain ⟨t1, t2, t3, t4, t5, t6⟩ := h
  refine ⟨r_up (by decide) (by decide +kernel) (by decide +kernel) ⟨by omega, by omega⟩ t1, ?_, ?_, ?_, ?_, ?_⟩
  · rw [c_up_s]; omega
  · rw [c_up_s]; omega
  · rw [r_ff (by decide)]; exact t4
  · rw [r_ff (by decide)]; exact t5
  · rw [r_ff (by decide)]; exact t6
/-- the end of a CURVE -/
theorem r_mc_end {p : Int} {g0 : Int → Int} {M0 M : EM} {n x3 x4 x5 : Int} (hp : 0 ≤ p ∧ p < 40) (hb : r_bl M0) (hk : r_mk p 0 g0 M0 M) (hq : 0 ≤ M 192 15 ∧ M 192 15 ≤ 200) (hn : 0 ≤ n ∧ n ≤ 6) (hs : r_sg M ≠ 32) : ∃ r M', E_V 184 101 [192, p, n, x3, x4, x5] M = some (r, M') ∧ r_mk p 0 g0 M0 M' ∧ M' 192 15 = M 192 15 ∧ 0 ≤ r_G M' (28 * p + 2) ∧ r_G M' (28 * p + 2) ≤ 6 := by
  have ks := r_sign (r_mk_ty hk hb ⟨hq.1, by omega⟩)
  have w1 : e_w (28 * p) = 28 * p := a_w_id (by omega) (by omega)
  have w2 : e_w (28 * p + 2) = 28 * p + 2 := a_w_id (by omega) (by omega)
  have w3 : e_w (28 * p + 8) = 28 * p + 8 := a_w_id (by omega) (by omega)
  have w4 : e_w (28 * p + 8 + n) = 28 * p + 8 + n := a_w_id (by omega) (by omega)
  have w5 : e_w (28 * p + 2 + n) = 28 * p + 2 + n := a_w_id (by omega) (by omega)
  have st := r_stw (i := 28 * p + 2) (v := n) (M := M) (by omega) (by omega)
  have h2 := r_mk_w (i := 28 * p + 2) (v := n) hk hp.1 (by omega) (fun _ => by omega) (fun _ => by omega) ⟨by omega, by omega⟩
  have hg : r_G (e_up M 193 (28 * p + 2).toNat n) (28 * p + 2) = n := r_G_s
  have hp15 : (e_up M 193 (28 * p + 2).toNat n) 192 15 = M 192 15 := r_n192
  generalize e_up M 193 (28 * p + 2).toNat n = M2 at st h2 hg hp15
  have ko := r_of (M := M2) (p := p) (k := 0) hp ⟨by decide, by decide⟩
  rw [Int.add_zero] at ko
  have l1 : e_op 60 [193, 28 * p + 8 + n] M2 = some (r_G M2 (28 * p + 8 + n)) := r_rd (by omega) (by omega)
  have l2 : e_op 60 [193, 28 * p + 2 + n] M2 = some (r_G M2 (28 * p + 2 + n)) := r_rd (by omega) (by omega)
  suffices h : ∃ z, E_V 184 101 [192, p, n, x3, x4, x5] M = E_V 184 184 [192, p, n, z, 1, x5] M2 by
    obtain ⟨z, h⟩ := h
    obtain ⟨r, k⟩ := r_mc_184 (p := p) (n := n) (x5 := x5) (M := M2) hp hn.2 _ z 1 (Nat.le_refl _) (by decide)
    exact ⟨r, M2, h.trans k, h2, hp15, by rw [hg]; exact hn.1, by rw [hg]; exact hn.2⟩
  by_cases c0 : x3 = 0
  · refine ⟨0, ?_⟩
    rw [E_V_eq]
    show e_tv E_C (E_V 184) e_t184_101 [192, p, n, x3, x4, x5] M = _
    unfold e_t184_101
    simp [e_tv, e_ev, e_sv, e_b1, e_b2, x_o1, x_o2, r_O0, ks, hs, w1, w2, st, c0]
  · rcases x_lt 1 n with ⟨c1, c1_n⟩ | ⟨c1, c1_n⟩
    · by_cases c2 : M2 193 (28 * p + 3).toNat = 0
      · by_cases c3 : r_G M2 (28 * p + 8 + n) = 0
        · rcases x_le (r_G M2 (28 * p + 2 + n)) 60 with ⟨c4, c4_n⟩ | ⟨c4, c4_n⟩
          · refine ⟨1, ?_⟩
            rw [E_V_eq]
            show e_tv E_C (E_V 184) e_t184_101 [192, p, n, x3, x4, x5] M = _
            unfold e_t184_101
            simp [e_tv, e_ev, e_sv, e_b1, e_b2, x_o1, x_o2, r_O0, ks, hs, w1, w2, w3, w4, w5, st, ko, c0, c1, c1_n, c2, l1, l2, c3, c4, c4_n]
          · refine ⟨0, ?_⟩
            rw [E_V_eq]
            show e_tv E_C (E_V 184) e_t184_101 [192, p, n, x3, x4, x5] M = _
            unfold e_t184_101
            simp [e_tv, e_ev, e_sv, e_b1, e_b2, x_o1, x_o2, r_O0, ks, hs, w1, w2, w3, w4, w5, st, ko, c0, c1, c1_n, c2, l1, l2, c3, c4, c4_n]
        · refine ⟨0, ?_⟩
          rw [E_V_eq]
          show e_tv E_C (E_V 184) e_t184_101 [192, p, n, x3, x4, x5] M = _
          unfold e_t184_101
          simp [e_tv, e_ev, e_sv, e_b1, e_b2, x_o1, x_o2, r_O0, ks, hs, w1, w2, w3, w4, st, ko, c0, c1, c1_n, c2, l1, c3]
      · refine ⟨0, ?_⟩
        rw [E_V_eq]
        show e_tv E_C (E_V 184) e_t184_101 [192, p, n, x3, x4, x5] M = _
        unfold e_t184_101
        simp [e_tv, e_ev, e_sv, e_b1, e_b2, x_o1, x_o2, r_O0, ks, hs, w1, w2, st, ko, c0, c1, c1_n, c2]
    · refine ⟨0, ?_⟩
      rw [E_V_eq]
      show e_tv E_C (E_V 184) e_t184_101 [192, p, n, x3, x4, x5] M = _
      unfold e_t184_101
      simp [e_tv, e_ev, e_sv, e_b1, e_b2, x_o1, x_o2, r_O0, ks, hs, w1, w2, st, c0, c1, c1_n]
theorem r_mc_step {p : Int} {g0 : Int → Int} {M0 : EM} (hp : 0 ≤ p ∧ p < 40) (hb : r_bl M0) {n x3 x4 x5 : Int} {M : EM} (hk : r_mk p 0 g0 M0 M) (hq : 0 ≤ M 192 15 ∧ M 192 15 ≤ 120) (hn : 0 ≤ n ∧ n ≤ 6) (H : ∀ M1 n x3 x4 x5, r_mk p 0 g0 M0 M1 → M 192 15 < M1 192 15 → M1 192 15 < M0 192 17 → (0 ≤ n ∧ n ≤ 6) → ∃ r M', E_V 184 4 [192, p, n, x3, x4, x5] M1 = some (r, M') ∧ r_mk p 0 g0 M0 M' ∧ M1 192 15 < M' 192 15 ∧ M' 192 15 ≤ 130 ∧ 0 ≤ r_G M' (28 * p + 2) ∧ r_G M' (28 * p + 2) ≤ 6) : ∃ r M', E_V 184 4 [192, p, n, x3, x4, x5] M = some (r, M') ∧ r_mk p 0 g0 M0 M' ∧ M 192 15 < M' 192 15 ∧ M' 192 15 ≤ 130 ∧ 0 ≤ r_G M' (28 * p + 2) ∧ r_G M' (28 * p + 2) ≤ 6 := by
  have hb' := hb
  obtain ⟨b1, b2, b3⟩ := hb'
  have e17 := r_mk_17 hk
  have w1 : e_w (M 192 15 + 1) = M 192 15 + 1 := a_w_id (by omega) (by omega)
  have h1 := r_mk_p (v := M 192 15 + 1) hk ⟨by omega, by omega⟩
  have q1 : (e_up M 192 15 (M 192 15 + 1)) 192 15 = M 192 15 + 1 := c_up_s
  generalize hM1 : e_up M 192 15 (M 192 15 + 1) = M1 at h1 q1
  have T1 := r_mk_ty h1 hb ⟨by omega, by omega⟩
  obtain ⟨r2, M2, k2, t2, -, -⟩ := r_rNum T1
  have h2 := r_mk_t h1 t2
  have l2 := t2.2.2.1
  have u2 := t2.2.2.2.1
  have e2 := r_mk_17 h1
  have hq2 : 0 ≤ M2 192 15 ∧ M2 192 15 ≤ 121 := by omega
  have w2 : e_w (M2 192 15 + 1) = M2 192 15 + 1 := a_w_id (by omega) (by omega)
  have h3 := r_mk_p (v := M2 192 15 + 1) h2 ⟨by omega, by omega⟩
  have q3 : (e_up M2 192 15 (M2 192 15 + 1)) 192 15 = M2 192 15 + 1 := c_up_s
  generalize hM3 : e_up M2 192 15 (M2 192 15 + 1) = M3 at h3 q3
  have T3 := r_mk_ty h3 hb ⟨by omega, by omega⟩
  obtain ⟨r4, M4, k4, t4, -, -⟩ := r_rNum T3
  have h4 := r_mk_t h3 t4
  have l4 := t4.2.2.1
  have u4 := t4.2.2.2.1
  have e4 := r_mk_17 h3
  have hq4 : M 192 15 + 2 ≤ M4 192 15 ∧ M4 192 15 ≤ 122 := by omega
  -- behind the second number
  have tail : ∀ N y2 y3 y5, r_mk p 0 g0 M0 N → N 192 15 = M4 192 15 → (0 ≤ y2 ∧ y2 ≤ 6) → ∃ r M', E_V 184 101 [192, p, y2, y3, r4, y5] N = some (r, M') ∧ r_mk p 0 g0 M0 M' ∧ M 192 15 < M' 192 15 ∧ M' 192 15 ≤ 130 ∧ 0 ≤ r_G M' (28 * p + 2) ∧ r_G M' (28 * p + 2) ≤ 6 := by
    intro N y2 y3 y5 hN hN15 hy
    have TN := r_mk_ty hN hb ⟨by omega, by omega⟩
    by_cases c : r_sg N = 32
    · have ks := r_sign TN
      have hl := r_sg_lt c (by decide)
      have eN := r_mk_17 hN
      obtain ⟨r, M', k, z1, z2, z3, z4⟩ := H N y2 y3 r4 y5 hN (by omega) (by omega) hy
      refine ⟨r, M', ?_, z1, by omega, z3, z4⟩
      rw [E_V_eq]
      show e_tv E_C (E_V 184) e_t184_101 [192, p, y2, y3, r4, y5] N = _
      unfold e_t184_101
      simp [e_tv, e_ev, e_sv, e_b1, e_b2, x_o1, x_o2, ks, c, k]
    · obtain ⟨r, M', k, z1, z2, z3⟩ := r_mc_end (x3 := y3) (x4 := r4) (x5 := y5) hp hb hN ⟨by omega, by omega⟩ hy c
      exact ⟨r, M', k, z1, by omega, by omega, z3⟩
  have n18 : -2147483648 ≤ M4 192 18 ∧ M4 192 18 ≤ 2147483647 := c_M32 h4.1 (by decide) (by decide +kernel)
  have n18' : -2147483648 ≤ M2 192 18 ∧ M2 192 18 ≤ 2147483647 := c_M32 h2.1 (by decide) (by decide +kernel)
  by_cases c : x3 ≠ 0 ∧ n < 6
  · obtain ⟨c0, c1⟩ := c
    have v1 : e_w (28 * p) = 28 * p := a_w_id (by omega) (by omega)
    have v2 : e_w (28 * p + 3) = 28 * p + 3 := a_w_id (by omega) (by omega)
    have v3 : e_w (28 * p + 3 + n) = 28 * p + 3 + n := a_w_id (by omega) (by omega)
    have v4 : e_w (28 * p + 9) = 28 * p + 9 := a_w_id (by omega) (by omega)
    have v5 : e_w (28 * p + 9 + n) = 28 * p + 9 + n := a_w_id (by omega) (by omega)
    have v6 : e_w (n + 1) = n + 1 := a_w_id (by omega) (by omega)
    have s1 := fun v => r_stw (i := 28 * p + 3 + n) (v := v) (M := M4) (by omega) (by omega)
    have s2 := fun v M => r_stw (i := 28 * p + 9 + n) (v := v) (M := M) (by omega) (by omega)
    have h5 := r_mk_w (i := 28 * p + 3 + n) (v := M2 192 18) h4 hp.1 (by omega) (fun _ => by omega) (fun e => absurd e (by decide)) n18'
    have h6 := r_mk_w (i := 28 * p + 9 + n) (v := M4 192 18) h5 hp.1 (by omega) (fun _ => by omega) (fun e => absurd e (by decide)) n18
    obtain ⟨r, M', k, z⟩ := tail _ (n + 1) 1 (M2 192 18) h6 (r_n192.trans r_n192) ⟨by omega, by omega⟩
    refine ⟨r, M', ?_, z⟩
    rw [E_V_eq]
    show e_tv E_C (E_V 184) e_t184_4 [192, p, n, x3, x4, x5] M = _
    unfold e_t184_4
    simp [e_tv, e_ev, e_sv, e_b1, e_b2, x_o1, x_o2, r_O0, r_F15, r_F18, r_P15, r_n192, w1, hM1, c0, c1, k2, w2, hM3, k4, v1, v2, v3, v4, v5, v6, s1, s2, k]
  · obtain ⟨r, M', k, z⟩ := tail M4 n 0 (M2 192 18) h4 rfl hn
    refine ⟨r, M', ?_, z⟩
    by_cases c0 : x3 = 0
    · rw [E_V_eq]
      show e_tv E_C (E_V 184) e_t184_4 [192, p, n, x3, x4, x5] M = _
      unfold e_t184_4
      simp [e_tv, e_ev, e_sv, e_b1, e_b2, x_o1, x_o2, r_O0, r_F15, r_F18, r_P15, w1, hM1, c0, k2, w2, hM3, k4, k]
    · have c1 : ¬ (n < 6) := fun e => c ⟨c0, e⟩
      have c1' : 6 ≤ n := by omega
      rw [E_V_eq]
      show e_tv E_C (E_V 184) e_t184_4 [192, p, n, x3, x4, x5] M = _
      unfold e_t184_4
      simp [e_tv, e_ev, e_sv, e_b1, e_b2, x_o1, x_o2, r_O0, r_F15, r_F18, r_P15, w1, hM1, c0, c1, c1', k2, w2, hM3, k4, k]
