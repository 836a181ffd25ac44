/-! lies, wall, sun, sky, trade, room of the reference -/
theorem r_sq {v : Int} (h : 0 ≤ v ∧ v ≤ 2147483647) {c : Int} (hc : 2 ≤ c) : e_w (v.tdiv c) = v / c ∧ v.tmod c = v % c := by
  have h1 : v.tdiv c = v / c := Int.tdiv_eq_ediv_of_nonneg h.1
  have h2 : v.tmod c = v % c := Int.tmod_eq_emod_of_nonneg h.1
  have h3 := (r_td (z := v) (c := c) ⟨by omega, h.2⟩ hc)
  refine ⟨?_, h2⟩
  rw [h1]
  have h4 : 0 ≤ v / c := Int.ediv_nonneg h.1 (by omega)
  have h5 : v / c ≤ v := Int.ediv_le_self _ h.1
  exact a_w_id (by omega) (by omega)
theorem r_isSquare {v : Int} {M : EM} (hv : v ≤ 2147483647) : E_C 218 [v] M = some (if 0 ≤ v ∧ v / 100 < 20 ∧ v % 100 < 12 then 1 else 0, M) := by
  rcases x_le 0 v with ⟨c0, c0_n⟩ | ⟨c0, c0_n⟩
  · obtain ⟨e1, e2⟩ := r_sq (v := v) (c := 100) ⟨c0, hv⟩ (by decide)
    rcases x_lt (v / 100) 20 with ⟨c1, c1_n⟩ | ⟨c1, c1_n⟩
    · rcases x_lt (v % 100) 12 with ⟨c2, c2_n⟩ | ⟨c2, c2_n⟩
      · rw [if_pos ⟨c0, c1, c2⟩]
        rw [r_ent (show e_rok 218 [v] = true from rfl)]
        show e_tv E_C (E_V 218) e_t218_0 [v] M = _
        unfold e_t218_0
        simp [e_tv, e_ev, e_sv, e_b1, e_b2, x_o1, x_o2, c0, c0_n, e1, e2, c1, c1_n, c2, c2_n]
      · rw [if_neg (fun h => c2 h.2.2)]
        rw [r_ent (show e_rok 218 [v] = true from rfl)]
        show e_tv E_C (E_V 218) e_t218_0 [v] M = _
        unfold e_t218_0
        simp [e_tv, e_ev, e_sv, e_b1, e_b2, x_o1, x_o2, c0, c0_n, e1, e2, c1, c1_n, c2, c2_n]
    · rw [if_neg (fun h => c1 h.2.1)]
      rw [r_ent (show e_rok 218 [v] = true from rfl)]
      show e_tv E_C (E_V 218) e_t218_0 [v] M = _
      unfold e_t218_0
      simp [e_tv, e_ev, e_sv, e_b1, e_b2, x_o1, x_o2, c0, c0_n, e1, c1, c1_n]
  · rw [if_neg (fun h => c0 h.1)]
    rw [r_ent (show e_rok 218 [v] = true from rfl)]
    show e_tv E_C (E_V 218) e_t218_0 [v] M = _
    unfold e_t218_0
    simp [e_tv, e_ev, e_sv, e_b1, e_b2, x_o1, x_o2, c0, c0_n]
/-- five cells of a CELL's PLACES -/
def r_lay5 (M : EM) (p a b c d : Int) : EM := e_up (e_up (e_up (e_up (e_up M 193 (28 * p + 20).toNat 1) 193 (28 * p + 20 + 1).toNat a) 193 (28 * p + 20 + 2).toNat b) 193 (28 * p + 20 + 3).toNat c) 193 (28 * p + 20 + 4).toNat d
theorem r_lay5_G {M : EM} {p a b c d : Int} (hp : 0 ≤ p ∧ p < 40) : r_G (r_lay5 M p a b c d) (28 * p + 20) = 1 ∧ r_G (r_lay5 M p a b c d) (28 * p + 20 + 1) = a ∧ r_G (r_lay5 M p a b c d) (28 * p + 20 + 2) = b ∧ r_G (r_lay5 M p a b c d) (28 * p + 20 + 3) = c ∧ r_G (r_lay5 M p a b c d) (28 * p + 20 + 4) = d ∧ ∀ i, i < 28 * p + 20 ∨ 28 * p + 24 < i → r_G (r_lay5 M p a b c d) i = r_G M i := by
  unfold r_lay5
  refine ⟨?_, ?_, ?_, ?_, r_G_s, fun i hi => ?_⟩
  · rw [r_G_n (by omega) (by omega), r_G_n (by omega) (by omega), r_G_n (by omega) (by omega), r_G_n (by omega) (by omega), r_G_s]
  · rw [r_G_n (by omega) (by omega), r_G_n (by omega) (by omega), r_G_n (by omega) (by omega), r_G_s]
  · rw [r_G_n (by omega) (by omega), r_G_n (by omega) (by omega), r_G_s]
  · rw [r_G_n (by omega) (by omega), r_G_s]
  · rw [r_G_n (by omega) (by omega), r_G_n (by omega) (by omega), r_G_n (by omega) (by omega), r_G_n (by omega) (by omega), r_G_n (by omega) (by omega)]
theorem r_lay5_J {M : EM} {p a b c d : Int} (hJ : r_J M) (hp : 0 ≤ p ∧ p < 40) (hk : r_G M (28 * p) = 0) (ha : 0 ≤ a ∧ a ≤ c ∧ c ≤ 19) (hb : 0 ≤ b ∧ b ≤ d ∧ d ≤ 11) : r_J (r_lay5 M p a b c d) ∧ a_fr (r_wL ++ r_wq) M (r_lay5 M p a b c d) := by
  obtain ⟨g0, g1, g2, g3, g4, g5⟩ := r_lay5_G (M := M) (a := a) (b := b) (c := c) (d := d) hp
  refine ⟨r_J_row hJ ?_ ?_ ?_, ?_⟩
  · unfold r_lay5
    exact r_upw ⟨by omega, by omega⟩ (r_upw ⟨by omega, by omega⟩ (r_upw ⟨by omega, by omega⟩ (r_upw ⟨by omega, by omega⟩ (r_upw (by decide) hJ.1))))
  · intro id k h
    unfold r_lay5
    rw [r_n193 h, r_n193 h, r_n193 h, r_n193 h, r_n193 h]
  · refine r_W_one (r_J_E hJ).2.1 (fun i hi => g5 i (by omega)) (g5 _ (by omega)) (g5 _ (by omega)) hp (Or.inl ⟨hk, fun _ => Or.inr ?_⟩)
    rw [show 28 * p + 21 = 28 * p + 20 + 1 by omega, show 28 * p + 22 = 28 * p + 20 + 2 by omega, show 28 * p + 23 = 28 * p + 20 + 3 by omega, show 28 * p + 24 = 28 * p + 20 + 4 by omega, g1, g2, g3, g4]
    exact ⟨ha.1, ha.2.1, ha.2.2, hb.1, hb.2.1, hb.2.2⟩
  · unfold r_lay5
    exact a_fr_tr (r_frp (p := p) (lo := 20) (up := 24) ⟨by omega, by omega⟩ ⟨by omega, by omega⟩) (a_fr_tr (r_frp (p := p) (lo := 20) (up := 24) ⟨by omega, by omega⟩ ⟨by omega, by omega⟩) (a_fr_tr (r_frp (p := p) (lo := 20) (up := 24) ⟨by omega, by omega⟩ ⟨by omega, by omega⟩) (a_fr_tr (r_frp (p := p) (lo := 20) (up := 24) ⟨by omega, by omega⟩ ⟨by omega, by omega⟩) (r_frp (p := p) (lo := 20) (up := 24) ⟨by omega, by omega⟩ ⟨by omega, by omega⟩))))
theorem r_liesOf {p f t : Int} {M : EM} (hJ : r_J M) (hf : -2147483648 ≤ f ∧ f ≤ 2147483647) (ht : -2147483648 ≤ t ∧ t ≤ 2147483647) : r_T r_wL 219 [192, p, f, t] M := by
  have hW := (r_J_E hJ).2.1
  by_cases q0 : 0 ≤ p ∧ p < r_G M 1198
  · have ip := r_ip1 hW q0
    have h40 := r_40 hW q0
    have kk : E_C 170 [192, p] M = some (r_G M (28 * p), M) := r_kind h40
    have k1 := r_isSquare (v := f) (M := M) hf.2
    have k2 := r_isSquare (v := t) (M := M) ht.2
    by_cases q1 : 0 ≤ f ∧ f / 100 < 20 ∧ f % 100 < 12
    · rw [if_pos q1] at k1
      obtain ⟨e1, e2⟩ := r_sq (v := f) (c := 100) ⟨q1.1, hf.2⟩ (by decide)
      by_cases q2 : 0 ≤ t ∧ t / 100 < 20 ∧ t % 100 < 12
      · rw [if_pos q2] at k2
        obtain ⟨e3, e4⟩ := r_sq (v := t) (c := 100) ⟨q2.1, ht.2⟩ (by decide)
        rcases x_le (f / 100) (t / 100) with ⟨q3, q3_n⟩ | ⟨q3, q3_n⟩
        · rcases x_lt (t % 100) (f % 100) with ⟨q4, q4_n⟩ | ⟨q4, q4_n⟩
          · refine r_Ts (r := -1) hJ ?_
            rw [r_ent (show e_rok 219 [192, p, f, t] = true from decide_eq_true r_ref)]
            show e_tv E_C (E_V 219) e_t219_0 [192, p, f, t, 0] M = _
            unfold e_t219_0
            simp [e_tv, e_ev, e_sv, e_b1, e_b2, x_o1, x_o2, ip, k1, k2, e1, e2, e3, e4, q3, q3_n, q4, q4_n]
          · by_cases q5 : r_G M (28 * p) = 0
            · have w1 : e_w (28 * p) = 28 * p := a_w_id (by omega) (by omega)
              have w2 : e_w (28 * p + 20) = 28 * p + 20 := a_w_id (by omega) (by omega)
              have v1 : e_w (28 * p + 20 + 1) = 28 * p + 20 + 1 := a_w_id (by omega) (by omega)
              have v2 : e_w (28 * p + 20 + 2) = 28 * p + 20 + 2 := a_w_id (by omega) (by omega)
              have v3 : e_w (28 * p + 20 + 3) = 28 * p + 20 + 3 := a_w_id (by omega) (by omega)
              have v4 : e_w (28 * p + 20 + 4) = 28 * p + 20 + 4 := a_w_id (by omega) (by omega)
              have s0 := fun v M => r_stw (i := 28 * p + 20) (v := v) (M := M) (by omega) (by omega)
              have s1 := fun v M => r_stw (i := 28 * p + 20 + 1) (v := v) (M := M) (by omega) (by omega)
              have s2 := fun v M => r_stw (i := 28 * p + 20 + 2) (v := v) (M := M) (by omega) (by omega)
              have s3 := fun v M => r_stw (i := 28 * p + 20 + 3) (v := v) (M := M) (by omega) (by omega)
              have s4 := fun v M => r_stw (i := 28 * p + 20 + 4) (v := v) (M := M) (by omega) (by omega)
              have d1 := fun M => r_rd (i := 28 * p + 20 + 1) (M := M) (by omega) (by omega)
              have d2 := fun M => r_rd (i := 28 * p + 20 + 2) (M := M) (by omega) (by omega)
              have d3 := fun M => r_rd (i := 28 * p + 20 + 3) (M := M) (by omega) (by omega)
              have d4 := fun M => r_rd (i := 28 * p + 20 + 4) (M := M) (by omega) (by omega)
              have hg := r_lay5_G (M := M) (p := p) (a := f / 100) (b := f % 100) (c := t / 100) (d := t % 100) h40
              obtain ⟨a1, a2⟩ := r_lay5_J (a := f / 100) (b := f % 100) (c := t / 100) (d := t % 100) hJ h40 q5 ⟨by omega, q3, by omega⟩ ⟨by omega, by omega, by omega⟩
              refine ⟨e_w (e_w (e_w (t / 100 - f / 100) + 1) * e_w (e_w (t % 100 - f % 100) + 1)), _, ?_, a1, a2⟩
              obtain ⟨g0, g1, g2, g3, g4, -⟩ := hg
              unfold r_lay5 at g1 g2 g3 g4 ⊢
              rw [r_ent (show e_rok 219 [192, p, f, t] = true from decide_eq_true r_ref)]
              show e_tv E_C (E_V 219) e_t219_0 [192, p, f, t, 0] M = _
              unfold e_t219_0
              simp [e_tv, e_ev, e_sv, e_b1, e_b2, x_o1, x_o2, r_O0, ip, kk, q5, k1, k2, e1, e2, e3, e4, q3, q3_n, q4, q4_n, w1, w2, v1, v2, v3, v4, s0, s1, s2, s3, s4, d1, d2, d3, d4, g1, g2, g3, g4]
            · refine r_Ts (r := -3) hJ ?_
              rw [r_ent (show e_rok 219 [192, p, f, t] = true from decide_eq_true r_ref)]
              show e_tv E_C (E_V 219) e_t219_0 [192, p, f, t, 0] M = _
              unfold e_t219_0
              simp [e_tv, e_ev, e_sv, e_b1, e_b2, x_o1, x_o2, ip, k1, k2, e1, e2, e3, e4, q3, q3_n, q4, q4_n, kk, q5]
        · refine r_Ts (r := -1) hJ ?_
          rw [r_ent (show e_rok 219 [192, p, f, t] = true from decide_eq_true r_ref)]
          show e_tv E_C (E_V 219) e_t219_0 [192, p, f, t, 0] M = _
          unfold e_t219_0
          simp [e_tv, e_ev, e_sv, e_b1, e_b2, x_o1, x_o2, ip, k1, k2, e1, e3, q3, q3_n]
      · rw [if_neg q2] at k2
        refine r_Ts (r := -1) hJ ?_
        rw [r_ent (show e_rok 219 [192, p, f, t] = true from decide_eq_true r_ref)]
        show e_tv E_C (E_V 219) e_t219_0 [192, p, f, t, 0] M = _
        unfold e_t219_0
        simp [e_tv, e_ev, e_sv, e_b1, e_b2, x_o1, x_o2, ip, k1, k2]
    · rw [if_neg q1] at k1
      refine r_Ts (r := -1) hJ ?_
      rw [r_ent (show e_rok 219 [192, p, f, t] = true from decide_eq_true r_ref)]
      show e_tv E_C (E_V 219) e_t219_0 [192, p, f, t, 0] M = _
      unfold e_t219_0
      simp [e_tv, e_ev, e_sv, e_b1, e_b2, x_o1, x_o2, ip, k1]
  · have ip := r_ip0 hW q0
    refine r_Ts (r := -1) hJ ?_
    rw [r_ent (show e_rok 219 [192, p, f, t] = true from decide_eq_true r_ref)]
    show e_tv E_C (E_V 219) e_t219_0 [192, p, f, t, 0] M = _
    unfold e_t219_0
    simp [e_tv, e_ev, e_sv, e_b1, e_b2, x_o1, x_o2, ip]
