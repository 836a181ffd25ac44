theorem r_loss_loop {p c al x4 : Int} (h4 : -2147483648 ≤ x4 ∧ x4 ≤ 2147483647) : ∀ (m : Nat) (x5 y6 x7 x8 : Int) (M : EM), r_J M → (0 ≤ p ∧ p < r_G M 1198) → (16 - x7).toNat ≤ m → 0 ≤ x7 → ∃ r M', E_V 247 77 [192, p, c, al, x4, x5, y6, x7, x8] M = some (r, M') ∧ a_M M' ∧ a_fr r_wq M M' ∧ M' 192 20 = -1 := by
  have hend : ∀ x5 y6 x7 x8 M, r_J M → ¬ (x7 < 16) → ∃ r M', E_V 247 77 [192, p, c, al, x4, x5, y6, x7, x8] M = some (r, M') ∧ a_M M' ∧ a_fr r_wq M M' ∧ M' 192 20 = -1 := by
    intro x5 y6 x7 x8 M hJ q
    refine ⟨x5, M, ?_, hJ.1, a_fr_rf, hJ.2.2.2.2⟩
    rw [E_V_eq]
    show e_tv E_C (E_V 247) e_t247_77 [192, p, c, al, x4, x5, y6, x7, x8] M = _
    unfold e_t247_77
    simp [e_tv, e_ev, e_sv, e_b1, e_b2, x_o1, x_o2, q]
  intro m
  induction m with
  | zero => intro x5 y6 x7 x8 M hJ hp hm h0; exact hend x5 y6 x7 x8 M hJ (by omega)
  | succ m ih =>
    intro x5 y6 x7 x8 M hJ hp hm h0
    rcases x_lt x7 16 with ⟨q, q_n⟩ | ⟨q, q_n⟩
    · have w4 : e_w (x7 + 1) = x7 + 1 := a_w_id (by omega) (by omega)
      have hgo : ∀ z5 z6 z8 M1, r_J M1 → (0 ≤ p ∧ p < r_G M1 1198) → ∃ r M', E_V 247 167 [192, p, c, al, x4, z5, z6, x7, z8] M1 = some (r, M') ∧ a_M M' ∧ a_fr r_wq M1 M' ∧ M' 192 20 = -1 := by
        intro z5 z6 z8 M1 hJ1 hp1
        obtain ⟨r, M', k, t⟩ := ih z5 z6 (x7 + 1) z8 M1 hJ1 hp1 (by omega) (by omega)
        refine ⟨r, M', ?_, t⟩
        rw [E_V_eq]
        show e_tv E_C (E_V 247) e_t247_167 [192, p, c, al, x4, z5, z6, x7, z8] M1 = _
        unfold e_t247_167
        simp [e_tv, e_ev, e_sv, e_b1, e_b2, x_o1, x_o2, w4, k]
      by_cases c1 : e_bit (fun x y => x &&& y) x7 x4 = 0
      · obtain ⟨r1, M1, k1, t1, t2, t3⟩ := r_withoutOf (c := e_bit (fun x y => x ||| y) x7 x4) hJ hp (a_bit _ _ _)
        have J1 := r_J_q hJ t1 t2 t3
        have hp1 : 0 ≤ p ∧ p < r_G M1 1198 := by rw [r_q_G t2]; exact hp
        obtain ⟨r2, M2, k2, u1, u2, u3⟩ := r_withoutOf (c := x7) J1 hp1 ⟨by omega, by omega⟩
        have J2 := r_J_q J1 u1 u2 u3
        have hp2 : 0 ≤ p ∧ p < r_G M2 1198 := by rw [r_q_G u2]; exact hp1
        generalize hn : e_w (e_w (e_w (e_bit (fun x y => x &&& y) x7 1 + e_bit (fun x y => x &&& y) (e_bit (fun x y => x >>> (y &&& 31)) x7 1) 1) + e_bit (fun x y => x &&& y) (e_bit (fun x y => x >>> (y &&& 31)) x7 2) 1) + e_bit (fun x y => x &&& y) (e_bit (fun x y => x >>> (y &&& 31)) x7 3) 1) = n
        have key : ∃ z, ∀ t, e_tv E_C (E_V 247) e_t247_77 [192, p, c, al, x4, x5, y6, x7, x8] M = t ↔ E_V 247 167 [192, p, c, al, x4, z, y6, x7, n] M2 = t := by
          unfold e_t247_77
          by_cases n0 : n = 0
          · subst n0
            exact ⟨_, fun t => by simp [e_tv, e_ev, e_sv, e_b1, e_b2, x_o1, x_o2, q, c1, k1, k2, hn]; exact Iff.rfl⟩
          · by_cases n3 : n = 3
            · subst n3
              exact ⟨_, fun t => by simp [e_tv, e_ev, e_sv, e_b1, e_b2, x_o1, x_o2, q, c1, k1, k2, hn]; exact Iff.rfl⟩
            · exact ⟨_, fun t => by simp [e_tv, e_ev, e_sv, e_b1, e_b2, x_o1, x_o2, q, c1, k1, k2, hn, n0, n3]; exact Iff.rfl⟩
        obtain ⟨z, key⟩ := key
        obtain ⟨r, M', k, s1, s2, s3⟩ := hgo z y6 n M2 J2 hp2
        exact ⟨r, M', (E_V_eq 247 77 _ M).trans ((key _).mpr k), s1, a_fr_tr t2 (a_fr_tr u2 s2), s3⟩
      · obtain ⟨r, M', k, t⟩ := hgo x5 y6 x8 M hJ hp
        refine ⟨r, M', ?_, t⟩
        rw [E_V_eq]
        show e_tv E_C (E_V 247) e_t247_77 [192, p, c, al, x4, x5, y6, x7, x8] M = _
        unfold e_t247_77
        simp [e_tv, e_ev, e_sv, e_b1, e_b2, x_o1, x_o2, q, q_n, c1, k]
    · exact hend x5 y6 x7 x8 M hJ q
theorem r_loss {p c al : Int} {M : EM} (hJ : r_J M) : r_Q 247 [192, p, c, al] M := by
  have hW := (r_J_E hJ).2.1
  have f1 := r_fup (M := M) (k := 10) (v := 1) (by decide) (by decide) hJ.1
  have f0 := r_fup (M := M) (k := 10) (v := 0) (by decide) (by decide) hJ.1
  have t1 : (e_up M 192 10 1) 192 20 = -1 := (r_up20 (by decide)).trans hJ.2.2.2.2
  have t0 : (e_up M 192 10 0) 192 20 = -1 := (r_up20 (by decide)).trans hJ.2.2.2.2
  by_cases q0 : 0 ≤ p ∧ p < r_G M 1198
  · have ip := r_ip1 hW q0
    by_cases q1 : 0 ≤ c ∧ c ≤ 3
    · have i1 := r_in1 (M := M) q1
      have J0 := r_J_q hJ f0.1 f0.2.1 t0
      have hp0 : 0 ≤ p ∧ p < r_G (e_up M 192 10 0) 1198 := by rw [f0.2.2]; exact q0
      generalize hn : e_bit (fun x y => x <<< (y &&& 31)) 1 c = n
      have hnr : -2147483648 ≤ n ∧ n ≤ 2147483647 := by rw [← hn]; exact a_bit _ _ _
      by_cases q2 : al = 0
      · obtain ⟨r1, M1, k1, u1, u2, u3⟩ := r_withoutOf (c := e_w (e_w (2 * n) - 1)) J0 hp0 (a_w _)
        have J1 := r_J_q J0 u1 u2 u3
        have hp1 : 0 ≤ p ∧ p < r_G M1 1198 := by rw [r_q_G u2]; exact hp0
        obtain ⟨r2, M2, k2, v1, v2, v3⟩ := r_withoutOf (c := e_w (n - 1)) J1 hp1 (a_w _)
        refine ⟨e_w (r1 - r2), M2, ?_, v1, a_fr_tr f0.2.1 (a_fr_tr u2 v2), v3⟩
        subst q2
        rw [r_ent (show e_rok 247 [192, p, c, 0] = true from decide_eq_true r_ref)]
        show e_tv E_C (E_V 247) e_t247_0 [192, p, c, 0, 0, 0, 0, 0, 0] M = _
        unfold e_t247_0
        simp [e_tv, e_ev, e_sv, e_b1, e_b2, x_o1, x_o2, r_P10, r_F10, c_up_s, ip, i1, hn, k1, k2]
      · obtain ⟨r, M1, k, u1, u2, u3⟩ := r_loss_loop (p := p) (c := c) (al := al) hnr 16 0 0 0 0 _ J0 hp0 (by decide) (by decide)
        refine ⟨r, M1, ?_, u1, a_fr_tr f0.2.1 u2, u3⟩
        rw [r_ent (show e_rok 247 [192, p, c, al] = true from decide_eq_true r_ref)]
        show e_tv E_C (E_V 247) e_t247_0 [192, p, c, al, 0, 0, 0, 0, 0] M = _
        unfold e_t247_0
        simp [e_tv, e_ev, e_sv, e_b1, e_b2, x_o1, x_o2, r_P10, r_F10, c_up_s, ip, i1, hn, q2, k]
    · have i1 := r_in0 (M := M) q1
      refine ⟨0, _, ?_, f1.1, f1.2.1, t1⟩
      rw [r_ent (show e_rok 247 [192, p, c, al] = true from decide_eq_true r_ref)]
      show e_tv E_C (E_V 247) e_t247_0 [192, p, c, al, 0, 0, 0, 0, 0] M = _
      unfold e_t247_0
      simp [e_tv, e_ev, e_sv, e_b1, e_b2, x_o1, x_o2, r_P10, r_F10, c_up_s, ip, i1]
  · have ip := r_ip0 hW q0
    refine ⟨0, _, ?_, f1.1, f1.2.1, t1⟩
    rw [r_ent (show e_rok 247 [192, p, c, al] = true from decide_eq_true r_ref)]
    show e_tv E_C (E_V 247) e_t247_0 [192, p, c, al, 0, 0, 0, 0, 0] M = _
    unfold e_t247_0
    simp [e_tv, e_ev, e_sv, e_b1, e_b2, x_o1, x_o2, r_P10, r_F10, c_up_s, ip]

