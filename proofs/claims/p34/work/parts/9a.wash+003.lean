theorem r_washed {d t i : Int} {M : EM} (hJ : r_J M) : r_Q 237 [192, d, t, i] M := by
  rcases x_lt i (-1) with ⟨q0, q0_n⟩ | ⟨q0, q0_n⟩
  · refine r_same (r := -1) hJ ?_
    rw [r_ent (show e_rok 237 [192, d, t, i] = true from decide_eq_true r_ref)]
    show e_tv E_C (E_V 237) e_t237_0 [192, d, t, i, 0, 0, 0, 0, 0] M = _
    unfold e_t237_0
    simp [e_tv, e_ev, e_sv, e_b1, e_b2, x_o1, x_o2, q0, q0_n]
  · obtain ⟨n, kn, hn⟩ := r_wrongWash (d := d) (t := t) hJ.2.1
    by_cases q : n = 0
    · subst q
      obtain ⟨h1, h2⟩ := hn rfl
      obtain ⟨M1, k1, t1, t2⟩ := r_findWashing (t := t) hJ h1 h2
      have l1 : e_op 60 [208, 0] M1 = some (M1 208 0) := r_rdA (a := 208) (i := 0) (n := 1023) (by decide) (by decide) (by decide +kernel) (by decide) (by decide)
      by_cases c : i = -1
      · subst c
        refine ⟨M1 208 0, M1, ?_, t1.1.1, t2, t1.1.2.2.2.2⟩
        rw [r_ent (show e_rok 237 [192, d, t, -1] = true from decide_eq_true r_ref)]
        show e_tv E_C (E_V 237) e_t237_0 [192, d, t, -1, 0, 0, 0, 0, 0] M = _
        unfold e_t237_0
        simp [e_tv, e_ev, e_sv, e_b1, e_b2, x_o1, x_o2, r_O32, kn, k1, l1]
      · obtain ⟨r, k⟩ := r_washed_loop (t := t) (i := i) (x4 := 0) h1 t1 30 0 0 0 0 (by decide) (by decide) (by decide) (by decide)
        refine ⟨r, M1, ?_, t1.1.1, t2, t1.1.2.2.2.2⟩
        rw [r_ent (show e_rok 237 [192, d, t, i] = true from decide_eq_true r_ref)]
        show e_tv E_C (E_V 237) e_t237_0 [192, d, t, i, 0, 0, 0, 0, 0] M = _
        unfold e_t237_0
        simp [e_tv, e_ev, e_sv, e_b1, e_b2, x_o1, x_o2, r_O32, q0, q0_n, kn, k1, c, k]
    · refine r_same (r := n) hJ ?_
      rw [r_ent (show e_rok 237 [192, d, t, i] = true from decide_eq_true r_ref)]
      show e_tv E_C (E_V 237) e_t237_0 [192, d, t, i, 0, 0, 0, 0, 0] M = _
      unfold e_t237_0
      simp [e_tv, e_ev, e_sv, e_b1, e_b2, x_o1, x_o2, q0, q0_n, kn, q]

