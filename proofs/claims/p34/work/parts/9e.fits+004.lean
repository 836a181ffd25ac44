theorem r_look {p d : Int} {M : EM} (hJ : r_J M) : r_Q 254 [192, p, d] M := by
  obtain ⟨n, kn, hn⟩ := r_wrongFits (p := p) (d := d) hJ
  by_cases q : n = 0
  · subst q
    have h := hn rfl
    obtain ⟨M1, k1, t1, t2, t3⟩ := r_gathers hJ h.1
    obtain ⟨r, M', k, u1, u2⟩ := r_lk_k (x7 := 0) (x8 := 0) (x9 := 0) (x10 := 0) (x11 := 0) _ 0 0 0 M1 (r_fv_0 h t1 t2 t3) rfl rfl (Nat.le_refl _) (by decide) (by have := t3.1.1; have := t3.2.1; omega) (by decide) (by decide)
    refine ⟨r, M', ?_, u1.1, a_fr_tr t2 u2, u1.2.2.2.2⟩
    rw [r_ent (show e_rok 254 [192, p, d] = true from decide_eq_true r_ref)]
    show e_tv E_C (E_V 254) e_t254_0 [192, p, d, 0, 0, 0, 0, 0, 0, 0, 0, 0] M = _
    unfold e_t254_0
    simp [e_tv, e_ev, e_sv, e_b1, e_b2, x_o1, x_o2, kn, k1, k]
  · refine r_same (r := n) hJ ?_
    rw [r_ent (show e_rok 254 [192, p, d] = true from decide_eq_true r_ref)]
    show e_tv E_C (E_V 254) e_t254_0 [192, p, d, 0, 0, 0, 0, 0, 0, 0, 0, 0] M = _
    unfold e_t254_0
    simp [e_tv, e_ev, e_sv, e_b1, e_b2, x_o1, x_o2, kn, q]

