theorem r_pt_out {d w n : Int} (hd : 0 ≤ d ∧ d ≤ 7) (hn : 2 ≤ n ∧ n ≤ 8) : ∀ (m : Nat) (x5 x6 x7 x8 : Int) (M : EM), r_J M → r_cells M d n → (8 - x5).toNat ≤ m → 0 ≤ x5 → ∃ r M', E_V 240 35 [192, d, w, 0, n, x5, x6, x7, x8] M = some (r, M') ∧ r_J M' ∧ a_fr r_wq M M' := by
  have hend : ∀ x5 x6 x7 x8 M, r_J M → r_cells M d n → ¬ (x5 < n) → ∃ r M', E_V 240 35 [192, d, w, 0, n, x5, x6, x7, x8] M = some (r, M') ∧ r_J M' ∧ a_fr r_wq M M' := by
    intro x5 x6 x7 x8 M hJ hc q
    obtain ⟨r, M', k, t⟩ := r_pz_out (d := d) (w := w) hn 258 0 (-1) 2 x8 M hJ (by decide) (by decide)
    refine ⟨r, M', ?_, t⟩
    rw [E_V_eq]
    show e_tv E_C (E_V 240) e_t240_35 [192, d, w, 0, n, x5, x6, x7, x8] M = _
    unfold e_t240_35
    simp [e_tv, e_ev, e_sv, e_b1, e_b2, x_o1, x_o2, q, k]
  intro m
  induction m with
  | zero => intro x5 x6 x7 x8 M hJ hc hm h0; exact hend x5 x6 x7 x8 M hJ hc (by omega)
  | succ m ih =>
    intro x5 x6 x7 x8 M hJ hc hm h0
    rcases x_lt x5 n with ⟨q, q_n⟩ | ⟨q, q_n⟩
    · obtain ⟨r, M', k, t⟩ := r_pt_in (w := w) hd hn ⟨h0, q⟩ (fun M1 j1 c1 y6 y7 y8 => ih (x5 + 1) y6 y7 y8 M1 j1 c1 (by omega) (by omega)) 100 0 x7 x8 M hJ hc (by decide) (by decide)
      refine ⟨r, M', ?_, t⟩
      rw [E_V_eq]
      show e_tv E_C (E_V 240) e_t240_35 [192, d, w, 0, n, x5, x6, x7, x8] M = _
      unfold e_t240_35
      simp [e_tv, e_ev, e_sv, e_b1, e_b2, x_o1, x_o2, q, q_n, k]
    · exact hend x5 x6 x7 x8 M hJ hc q
theorem r_parting {d w : Int} {M : EM} (hJ : r_J M) : r_Q 240 [192, d, w] M := by
  by_cases q0 : 0 ≤ w ∧ w ≤ 1
  · have i0 := r_in1 (M := M) q0
    obtain ⟨n, kn, hn⟩ := r_wrongParting (d := d) hJ
    by_cases q : n = 0
    · subst q
      obtain ⟨hd, h2, h8, hc⟩ := hn rfl
      have ls := (r_isD d M hd).2.2.1
      obtain ⟨r, M', k, t1, t2⟩ := r_pt_out (w := w) hd ⟨h2, h8⟩ 8 0 0 0 0 M hJ hc (by decide) (by decide)
      refine ⟨r, M', ?_, t1.1, t2, t1.2.2.2.2⟩
      rw [r_ent (show e_rok 240 [192, d, w] = true from decide_eq_true r_ref)]
      show e_tv E_C (E_V 240) e_t240_0 [192, d, w, 0, 0, 0, 0, 0, 0] M = _
      unfold e_t240_0
      simp [e_tv, e_ev, e_sv, e_b1, e_b2, x_o1, x_o2, r_O4, i0, kn, ls, k]
    · refine r_same (r := n) hJ ?_
      rw [r_ent (show e_rok 240 [192, d, w] = true from decide_eq_true r_ref)]
      show e_tv E_C (E_V 240) e_t240_0 [192, d, w, 0, 0, 0, 0, 0, 0] M = _
      unfold e_t240_0
      simp [e_tv, e_ev, e_sv, e_b1, e_b2, x_o1, x_o2, i0, kn, q]
  · have i0 := r_in0 (M := M) q0
    refine r_same (r := -1) hJ ?_
    rw [r_ent (show e_rok 240 [192, d, w] = true from decide_eq_true r_ref)]
    show e_tv E_C (E_V 240) e_t240_0 [192, d, w, 0, 0, 0, 0, 0, 0] M = _
    unfold e_t240_0
    simp [e_tv, e_ev, e_sv, e_b1, e_b2, x_o1, x_o2, i0]

