section RROW
variable {p a : Int} {g0 : Int → Int} {M0 : EM}
theorem r_mr_step {n gr x4 x5 x7 : Int} {N : EM} (hp : 0 ≤ p ∧ p < 40) (hW : r_W g0) (hpc : g0 1198 = p) (hb : r_bl M0) (hH : r_RH p a g0 M0) (h : r_RI p g0 M0 n x4 N) (hx5 : x5 = 0 ∨ x5 = 1) (hq : a < N 192 15 ∧ 0 ≤ N 192 15 ∧ N 192 15 ≤ 122) (hg : 0 ≤ gr ∧ gr + 1 ≤ N 192 15) (hgn : x4 = 1 → gr ≤ n) (H : ∀ N1 n x4 x7, r_RI p g0 M0 n x4 N1 → N 192 15 < N1 192 15 → N1 192 15 ≤ M0 192 17 → (x4 = 1 → gr ≤ n) → r_MR p a g0 M0 (E_V 186 28 [192, p, n, gr, x4, x5, 1, x7] N1)) : r_MR p a g0 M0 (E_V 186 28 [192, p, n, gr, x4, x5, 1, x7] N) := by
  have hb' := hb
  obtain ⟨b1, b2, b3⟩ := hb'
  have TN := r_mk_ty h.1 hb ⟨by omega, by omega⟩
  have e17 := r_mk_17 h.1
  obtain ⟨r2, M2, k2, t2, -, -⟩ := r_rNum TN
  have h2 := r_RI_t h t2
  have l2 := t2.2.2.1
  have u2 := t2.2.2.2.1
  have hq2 : N 192 15 ≤ M2 192 15 ∧ M2 192 15 ≤ 122 := by omega
  obtain ⟨n0, n99⟩ := h2.1.2.2.2.2.2.2.2
  -- behind a number
  have tail : ∀ N1 y2 y4, r_RI p g0 M0 y2 y4 N1 → N1 192 15 = M2 192 15 → (y4 = 1 → gr + 1 ≤ y2) → r_MR p a g0 M0 (E_V 186 127 [192, p, y2, gr, y4, x5, 1, r2] N1) := by
    intro N1 y2 y4 hR h15 hgy
    have T1 := r_mk_ty hR.1 hb ⟨by omega, by omega⟩
    rcases hx5 with hx | hx
    · obtain ⟨r, M', k, z⟩ := r_mr_out (x5 := x5) (x7 := r2) hp hb hH hR (Or.inl hx) (by omega) (by omega) hgy
      refine ⟨r, M', ?_, z⟩
      subst hx
      rw [E_V_eq]
      show e_tv E_C (E_V 186) e_t186_127 [192, p, y2, gr, y4, 0, 1, r2] N1 = _
      unfold e_t186_127
      simp [e_tv, e_ev, e_sv, e_b1, e_b2, x_o1, x_o2, k]
    · obtain ⟨s, M3, k3, t3, h3, g3⟩ := r_takesT (c := 32) T1 (by decide)
      have hR3 := r_RI_t hR t3
      have l3 := t3.2.2.1
      have u3 := t3.2.2.2.1
      have e18 := r_mk_17 hR.1
      rcases h3 with h3 | h3
      · obtain ⟨r, M', k, z⟩ := r_mr_out (x5 := x5) (x7 := r2) hp hb hH hR3 (Or.inr hx) (by omega) (by omega) hgy
        refine ⟨r, M', ?_, z⟩
        subst hx
        subst h3
        rw [E_V_eq]
        show e_tv E_C (E_V 186) e_t186_127 [192, p, y2, gr, y4, 1, 1, r2] N1 = _
        unfold e_t186_127
        simp [e_tv, e_ev, e_sv, e_b1, e_b2, x_o1, x_o2, k3, k]
      · have g4 := g3 h3
        obtain ⟨r, M', k, z⟩ := H M3 y2 y4 r2 hR3 (by omega) (by omega) (fun e => by have := hgy e; omega)
        refine ⟨r, M', ?_, z⟩
        subst hx
        subst h3
        rw [E_V_eq]
        show e_tv E_C (E_V 186) e_t186_127 [192, p, y2, gr, y4, 1, 1, r2] N1 = _
        unfold e_t186_127
        simp [e_tv, e_ev, e_sv, e_b1, e_b2, x_o1, x_o2, k3, k]
  have h3 := h2
  obtain ⟨a1, a2, a3, a4⟩ := h3
  rcases a3 with c0 | c0
  · obtain ⟨r, M', k, z⟩ := tail M2 n 0 ⟨a1, a2, Or.inl rfl, fun e => absurd e (by decide)⟩ rfl (fun e => absurd e (by decide))
    refine ⟨r, M', ?_, z⟩
    subst c0
    rw [E_V_eq]
    show e_tv E_C (E_V 186) e_t186_28 [192, p, n, gr, 0, x5, 1, x7] N = _
    unfold e_t186_28
    simp [e_tv, e_ev, e_sv, e_b1, e_b2, x_o1, x_o2, r_F18, k2, k]
  · rcases x_lt n 8 with ⟨c1, c1_n⟩ | ⟨c1, c1_n⟩
    · obtain ⟨s, ks, hs, hs1⟩ := r_mayCome (ks := 1) (M := M2) n0 (p := p) (by omega)
      rcases hs with hs | hs
      · subst hs
        obtain ⟨r, M', k, z⟩ := tail M2 n 0 ⟨a1, a2, Or.inl rfl, fun e => absurd e (by decide)⟩ rfl (fun e => absurd e (by decide))
        refine ⟨r, M', ?_, z⟩
        subst c0
        rw [E_V_eq]
        show e_tv E_C (E_V 186) e_t186_28 [192, p, n, gr, 1, x5, 1, x7] N = _
        unfold e_t186_28
        simp [e_tv, e_ev, e_sv, e_b1, e_b2, x_o1, x_o2, r_F18, k2, c1, c1_n, ks, k]
      · subst hs
        obtain ⟨hq0, hbit⟩ := hs1 rfl
        have hK := r_W_kind hW (q := M2 192 18) ⟨n0, by rw [hpc]; exact hq0⟩
        rw [hpc] at hK
        obtain ⟨K0, K1, -, -⟩ := hK
        have eK : r_G M2 (28 * M2 192 18) = g0 (28 * M2 192 18) := a1.2.2.1 _ (by omega) (by omega) (by omega)
        rw [eK] at hbit
        have hmemq : r_cl g0 p (M2 192 18) := K1 ((r_bits K0).1 hbit)
        have v1 : e_w (28 * p) = 28 * p := a_w_id (by omega) (by omega)
        have v2 : e_w (28 * p + 3) = 28 * p + 3 := a_w_id (by omega) (by omega)
        have v3 : e_w (28 * p + 3 + n) = 28 * p + 3 + n := a_w_id (by omega) (by omega)
        have v4 : e_w (28 * M2 192 18) = 28 * M2 192 18 := a_w_id (by omega) (by omega)
        have v5 : e_w (28 * M2 192 18 + 1) = 28 * M2 192 18 + 1 := a_w_id (by omega) (by omega)
        have v6 : e_w (n + 1) = n + 1 := a_w_id (by omega) (by omega)
        have v7 : e_w (p + 1) = p + 1 := a_w_id (by omega) (by omega)
        have v8 : e_w (28 * p + 11) = 28 * p + 11 := a_w_id (by omega) (by omega)
        have v9 : e_w (28 * p + 11 + n) = 28 * p + 11 + n := a_w_id (by omega) (by omega)
        have s1 := fun v => r_stw (i := 28 * p + 3 + n) (v := v) (M := M2) (by omega) (by omega)
        have s2 := fun v M => r_stw (i := 28 * p + 11 + n) (v := v) (M := M) (by omega) (by omega)
        have s3 := fun v M => r_stw (i := 28 * M2 192 18 + 1) (v := v) (M := M) (by omega) (by omega)
        have hgn' := hgn c0
        have h5 := r_mk_w (i := 28 * p + 3 + n) (v := M2 192 18) a1 hp.1 (by omega) (fun e => absurd e (by decide)) (fun e => absurd e (by decide)) ⟨by omega, by omega⟩
        have h6 := r_mk_w (i := 28 * p + 11 + n) (v := gr) h5 hp.1 (by omega) (fun e => absurd e (by decide)) (fun e => absurd e (by decide)) ⟨by omega, by omega⟩
        have h7 := r_mk_o (q := M2 192 18) (v := p + 1) h6 ⟨n0, hq0⟩ ⟨by omega, by omega⟩
        obtain ⟨r, M', k, z⟩ := tail _ (n + 1) 1 ⟨h7, ⟨by omega, by omega⟩, Or.inr rfl, fun _ k k0 k1 => by
          rw [r_G_n (by omega) (by omega), r_G_n (by omega) (by omega)]
          by_cases hkn : k = n
          · subst hkn
            rw [r_G_s]
            exact hmemq
          · rw [r_G_n (by omega) (by omega)]
            exact a4 c0 k k0 (by omega)⟩ (r_n192.trans (r_n192.trans r_n192)) (fun _ => by omega)
        refine ⟨r, M', ?_, z⟩
        subst c0
        rw [E_V_eq]
        show e_tv E_C (E_V 186) e_t186_28 [192, p, n, gr, 1, x5, 1, x7] N = _
        unfold e_t186_28
        simp [e_tv, e_ev, e_sv, e_b1, e_b2, x_o1, x_o2, r_O0, r_F18, r_n192, k2, c1, c1_n, ks, v1, v2, v3, v4, v5, v6, v7, v8, v9, s1, s2, s3, k]
    · obtain ⟨r, M', k, z⟩ := tail M2 n 0 ⟨a1, a2, Or.inl rfl, fun e => absurd e (by decide)⟩ rfl (fun e => absurd e (by decide))
      refine ⟨r, M', ?_, z⟩
      subst c0
      rw [E_V_eq]
      show e_tv E_C (E_V 186) e_t186_28 [192, p, n, gr, 1, x5, 1, x7] N = _
      unfold e_t186_28
      simp [e_tv, e_ev, e_sv, e_b1, e_b2, x_o1, x_o2, r_F18, k2, c1, c1_n, k]
end RROW
