theorem r_lowPush {b p c : Int} {M : EM} (hE : r_E M) (hb : b ≤ 40) (hp : r_cl (r_G M) b p ∨ r_rw (r_G M) b p) : r_P 201 [192, p, c] M := by
  have h40 := r_lo_p hb hp
  have kk : E_C 170 [192, p] M = some (r_G M (28 * p), M) := r_kind h40
  rcases hp with hp | hp
  · obtain ⟨a1, a2, a3, a4, a5, a6⟩ := hp
    obtain ⟨s, ks, hs⟩ := r_share hE h40 a6
    obtain ⟨v, kv, hv⟩ := r_cellPush (c := c) (sh := s) (M := M) h40 ⟨a4, a5⟩
    refine ⟨v, ?_, hv⟩
    rw [r_ent (show e_rok 201 [192, p, c] = true from decide_eq_true r_ref)]
    show e_tv E_C (E_V 201) e_t201_0 [192, p, c, 0, 0, 0] M = _
    unfold e_t201_0
    simp [e_tv, e_ev, e_sv, e_b1, e_b2, x_o1, x_o2, kk, a3, ks, kv]
  · obtain ⟨a1, a2, a3, a4, a5, a6, a7, a8⟩ := hp
    obtain ⟨r, k, hr⟩ := r_low_loop (c := c) hE h40 a5 a7 a8 8 0 0 0 (by decide) (by decide) (by decide)
    refine ⟨r, ?_, hr⟩
    rw [r_ent (show e_rok 201 [192, p, c] = true from decide_eq_true r_ref)]
    show e_tv E_C (E_V 201) e_t201_0 [192, p, c, 0, 0, 0] M = _
    unfold e_t201_0
    simp [e_tv, e_ev, e_sv, e_b1, e_b2, x_o1, x_o2, kk, a3, k]

