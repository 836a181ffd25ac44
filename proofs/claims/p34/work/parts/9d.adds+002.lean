theorem r_ad_40_304 {g : Int → Int} {p a b : Int} (hr : r_rw g 40 p) (ha : 0 ≤ a ∧ a ≤ 40) (hb : 0 ≤ b ∧ b ≤ 40) : ∀ (m : Nat) (x2 : Int) (M : EM), r_J M → r_G M = g → r_cd (a + x2) b M → (8 - x2).toNat ≤ m → 0 ≤ x2 → x2 ≤ 8 → r_AD g (a + 8) (b + 8) M (E_V 304 40 [192, p, x2] M) := by
  have hr' := hr
  obtain ⟨a1, a2, a3, a4, a5, a6, a7, a8⟩ := hr'
  have hend : ∀ x2 M, r_J M → r_G M = g → r_cd (a + x2) b M → ¬ (x2 < g (28 * p + 2)) → x2 ≤ 8 → r_AD g (a + 8) (b + 8) M (E_V 304 40 [192, p, x2] M) := by
    intro x2 M hJ hg hc q h8
    have km : E_C 171 [192, p] M = some (g (28 * p + 2), M) := by rw [← hg]; exact r_many ⟨a1, a2⟩
    obtain ⟨M', k, t⟩ := r_ad_82_304 (a := a + 8) (b := b) hr hb 8 0 M hJ hg ⟨⟨hc.1.1, by have := hc.1.2; omega⟩, hc.2.1, by have := hc.2.2; omega⟩ (by decide) (by decide) (by decide)
    refine ⟨M', ?_, t⟩
    rw [E_V_eq]
    show e_tv E_C (E_V 304) e_t304_40 [192, p, x2] M = _
    unfold e_t304_40
    simp [e_tv, e_ev, e_sv, e_b1, e_b2, x_o1, x_o2, km, q, k]
  intro m
  induction m with
  | zero => intro x2 M hJ hg hc hm h0 h8; exact hend x2 M hJ hg hc (by omega) h8
  | succ m ih =>
    intro x2 M hJ hg hc hm h0 h8
    rcases x_lt x2 (g (28 * p + 2)) with ⟨q, q_n⟩ | ⟨q, q_n⟩
    · have km : E_C 171 [192, p] M = some (g (28 * p + 2), M) := by rw [← hg]; exact r_many ⟨a1, a2⟩
      have ko : E_C 172 [192, p, x2] M = some (g (28 * p + 3 + x2), M) := by rw [← hg]; exact r_of ⟨a1, a2⟩ ⟨h0, by omega⟩
      have hv : -2147483648 ≤ g (28 * p + 3 + x2) ∧ g (28 * p + 3 + x2) ≤ 2147483647 := by rw [← hg]; exact r_gr hJ.1 _
      have w5 : e_w (x2 + 1) = x2 + 1 := a_w_id (by omega) (by omega)
      have hc' := hc
      obtain ⟨⟨c1, c2⟩, c3⟩ := hc'
      have w8 : e_w (M 192 13 + 1) = M 192 13 + 1 := a_w_id (by omega) (by omega)
      obtain ⟨u1, u2, u3, u4⟩ := r_c1_ok (v := g (28 * p + 3 + x2)) hJ ⟨c1, by omega⟩ hv
      obtain ⟨M', k, t1, t2, t3⟩ := ih (x2 + 1) (r_c1 M (g (28 * p + 3 + x2))) u1 ((r_q_G u2).trans hg) ⟨⟨by rw [u3]; omega, by rw [u3]; omega⟩, by rw [u4]; exact c3⟩ (by omega) (by omega) (by omega)
      have st := r_st202 (i := M 192 13) (v := g (28 * p + 3 + x2)) (M := M) c1 (by omega)
      refine ⟨M', ?_, t1, a_fr_tr u2 t2, t3⟩
      unfold r_c1 at k
      rw [E_V_eq]
      show e_tv E_C (E_V 304) e_t304_40 [192, p, x2] M = _
      unfold e_t304_40
      simp [e_tv, e_ev, e_sv, e_b1, e_b2, x_o1, x_o2, r_O11, r_F13, r_P13, r_202, km, ko, w5, w8, q, q_n, st, k]
    · exact hend x2 M hJ hg hc q h8
theorem r_ad_lo_304 {g : Int → Int} {p a b : Int} {M : EM} (hr : r_cl g 40 p ∨ r_rw g 40 p) (ha : 0 ≤ a ∧ a ≤ 40) (hb : 0 ≤ b ∧ b ≤ 40) (hJ : r_J M) (hg : r_G M = g) (hc : r_cd a b M) : r_AD g (a + 8) (b + 8) M (E_C 304 [192, p] M) := by
  have h40 := r_lo_p (by decide) hr
  have kk : E_C 170 [192, p] M = some (g (28 * p), M) := by rw [← hg]; exact r_kind h40
  rcases hr with hr | hr
  · have a3 := hr.2.2.1
    have hc' := hc
    obtain ⟨⟨c1, c2⟩, c3⟩ := hc'
    obtain ⟨u1, u2, u3, u4⟩ := r_c1_ok (v := p) hJ ⟨c1, by omega⟩ ⟨by omega, by omega⟩
    have w8 : e_w (M 192 13 + 1) = M 192 13 + 1 := a_w_id (by omega) (by omega)
    have st := r_st202 (i := M 192 13) (v := p) (M := M) c1 (by omega)
    refine ⟨r_c1 M p, ?_, u1, u2, ⟨by rw [u3]; omega, by rw [u3]; omega⟩, by rw [u4]; omega, by rw [u4]; omega⟩
    unfold r_c1
    rw [r_ent (show e_rok 304 [192, p] = true from decide_eq_true r_ref)]
    show e_tv E_C (E_V 304) e_t304_0 [192, p, 0] M = _
    unfold e_t304_0
    simp [e_tv, e_ev, e_sv, e_b1, e_b2, x_o1, x_o2, r_O11, r_F13, r_P13, r_202, kk, a3, w8, st]
  · have a3 := hr.2.2.1
    obtain ⟨M', k, t⟩ := r_ad_40_304 (a := a) (b := b) hr ha hb 8 0 M hJ hg (by rw [Int.add_zero]; exact hc) (by decide) (by decide) (by decide)
    refine ⟨M', ?_, t⟩
    rw [r_ent (show e_rok 304 [192, p] = true from decide_eq_true r_ref)]
    show e_tv E_C (E_V 304) e_t304_0 [192, p, 0] M = _
    unfold e_t304_0
    simp [e_tv, e_ev, e_sv, e_b1, e_b2, x_o1, x_o2, kk, a3, k]
theorem r_ad_82_305 {g : Int → Int} {p a b : Int} (hr : r_rw g 40 p) (hb : 0 ≤ b ∧ b ≤ 40) : ∀ (m : Nat) (x2 : Int) (M : EM), r_J M → r_G M = g → r_cd a (b + x2) M → (8 - x2).toNat ≤ m → 0 ≤ x2 → x2 ≤ 8 → r_AD g a (b + 8) M (E_V 305 82 [192, p, x2] M) := by
  obtain ⟨a1, a2, a3, a4, a5, a6, a7, a8⟩ := hr
  have w1 : e_w (28 * p) = 28 * p := a_w_id (by omega) (by omega)
  have w2 : e_w (28 * p + 19) = 28 * p + 19 := a_w_id (by omega) (by omega)
  have w3 : e_w (28 * p + 20) = 28 * p + 20 := a_w_id (by omega) (by omega)
  have hend : ∀ x2 M, r_J M → r_G M = g → r_cd a (b + x2) M → ¬ (x2 < g (28 * p + 19)) → x2 ≤ 8 → r_AD g a (b + 8) M (E_V 305 82 [192, p, x2] M) := by
    intro x2 M hJ hg hc q h8
    have l1 : e_op 60 [193, 28 * p + 19] M = some (g (28 * p + 19)) := (r_rd (by omega) (by omega)).trans (congrArg some (congrFun hg _))
    refine ⟨M, ?_, hJ, a_fr_rf, hc.1, hc.2.1, by have := hc.2.2; omega⟩
    rw [E_V_eq]
    show e_tv E_C (E_V 305) e_t305_82 [192, p, x2] M = _
    unfold e_t305_82
    simp [e_tv, e_ev, e_sv, e_b1, e_b2, x_o1, x_o2, r_O0, w1, w2, l1, q]
  intro m
  induction m with
  | zero => intro x2 M hJ hg hc hm h0 h8; exact hend x2 M hJ hg hc (by omega) h8
  | succ m ih =>
    intro x2 M hJ hg hc hm h0 h8
    rcases x_lt x2 (g (28 * p + 19)) with ⟨q, q_n⟩ | ⟨q, q_n⟩
    · have l1 : e_op 60 [193, 28 * p + 19] M = some (g (28 * p + 19)) := (r_rd (by omega) (by omega)).trans (congrArg some (congrFun hg _))
      have l2 : e_op 60 [193, 28 * p + 20 + x2] M = some (g (28 * p + 20 + x2)) := (r_rd (by omega) (by omega)).trans (congrArg some (congrFun hg _))
      have w4 : e_w (28 * p + 20 + x2) = 28 * p + 20 + x2 := a_w_id (by omega) (by omega)
      have w5 : e_w (x2 + 1) = x2 + 1 := a_w_id (by omega) (by omega)
      have w6 : e_w (8 * p) = 8 * p := a_w_id (by omega) (by omega)
      have w7 : e_w (8 * p + x2) = 8 * p + x2 := a_w_id (by omega) (by omega)
      have hc' := hc
      obtain ⟨c1, c2, c3⟩ := hc'
      have w8 : e_w (M 192 14 + 1) = M 192 14 + 1 := a_w_id (by omega) (by omega)
      by_cases c : g (28 * p + 20 + x2) = 0
      · obtain ⟨M', k, t⟩ := ih (x2 + 1) M hJ hg ⟨c1, c2, by omega⟩ (by omega) (by omega) (by omega)
        have k143 : E_V 305 143 [192, p, x2] M = some (0, M') := by
          rw [E_V_eq]
          show e_tv E_C (E_V 305) e_t305_143 [192, p, x2] M = _
          unfold e_t305_143
          simp [e_tv, e_ev, e_sv, e_b1, e_b2, x_o1, x_o2, w5, k]
        refine ⟨M', ?_, t⟩
        rw [E_V_eq]
        show e_tv E_C (E_V 305) e_t305_82 [192, p, x2] M = _
        unfold e_t305_82
        simp [e_tv, e_ev, e_sv, e_b1, e_b2, x_o1, x_o2, r_O0, w1, w2, w3, w4, l1, l2, q, q_n, c, k143]
      · obtain ⟨u1, u2, u3, u4⟩ := r_d1_ok (v := 8 * p + x2) hJ ⟨c2, by omega⟩ ⟨by omega, by omega⟩
        obtain ⟨M', k, t1, t2, t3⟩ := ih (x2 + 1) (r_d1 M (8 * p + x2)) u1 ((r_q_G u2).trans hg) ⟨by rw [u4]; exact c1, by rw [u3]; omega, by rw [u3]; omega⟩ (by omega) (by omega) (by omega)
        have k143 : E_V 305 143 [192, p, x2] (r_d1 M (8 * p + x2)) = some (0, M') := by
          rw [E_V_eq]
          show e_tv E_C (E_V 305) e_t305_143 [192, p, x2] (r_d1 M (8 * p + x2)) = _
          unfold e_t305_143
          simp [e_tv, e_ev, e_sv, e_b1, e_b2, x_o1, x_o2, w5, k]
        have st := r_st203 (i := M 192 14) (v := 8 * p + x2) (M := M) c2 (by omega)
        refine ⟨M', ?_, t1, a_fr_tr u2 t2, t3⟩
        unfold r_d1 at k143
        rw [E_V_eq]
        show e_tv E_C (E_V 305) e_t305_82 [192, p, x2] M = _
        unfold e_t305_82
        simp [e_tv, e_ev, e_sv, e_b1, e_b2, x_o1, x_o2, r_O0, r_O12, r_F14, r_P14, r_203, w1, w2, w3, w4, w6, w7, w8, l1, l2, q, q_n, c, st, k143]
    · exact hend x2 M hJ hg hc q h8
