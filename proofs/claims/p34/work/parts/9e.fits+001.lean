theorem r_fb_loop {p d k : Int} {M : EM} (hJ : r_J M) (hp : 0 ≤ p ∧ p < r_G M 1198) (hd : 0 ≤ d ∧ d ≤ 7) (hz : M 197 d.toNat ≤ 40) : ∀ (m : Nat) (x4 x5 : Int), (40 - x5).toNat ≤ m → 0 ≤ x5 → (x4 = 0 ∨ x4 = 1) → ∃ r M', E_V 252 11 [192, p, d, k, x4, x5] M = some (r, M') ∧ (r = 0 ∨ r = 1) ∧ r_J M' ∧ a_fr r_wq M M' ∧ M' 192 13 = M 192 13 ∧ M' 192 14 = M 192 14 := by
  have ls := (r_isD d M hd).2.2.1
  have hW := (r_J_E hJ).2.1
  have hend : ∀ x4 x5, (x4 = 0 ∨ x4 = 1) → ¬ (x5 < M 197 d.toNat ∧ x4 = 1) → ∃ r M', E_V 252 11 [192, p, d, k, x4, x5] M = some (r, M') ∧ (r = 0 ∨ r = 1) ∧ r_J M' ∧ a_fr r_wq M M' ∧ M' 192 13 = M 192 13 ∧ M' 192 14 = M 192 14 := by
    intro x4 x5 h4 q
    obtain ⟨M', k', t⟩ := r_noFault hJ
    refine ⟨x4, M', ?_, h4, t⟩
    rcases x_lt x5 (M 197 d.toNat) with ⟨q0, q0_n⟩ | ⟨q0, q0_n⟩
    · have q1 : x4 = 0 := by omega
      subst q1
      rw [E_V_eq]
      show e_tv E_C (E_V 252) e_t252_11 [192, p, d, k, 0, x5] M = _
      unfold e_t252_11
      simp [e_tv, e_ev, e_sv, e_b1, e_b2, x_o1, x_o2, r_O4, ls, q0, q0_n, k']
    · rw [E_V_eq]
      show e_tv E_C (E_V 252) e_t252_11 [192, p, d, k, x4, x5] M = _
      unfold e_t252_11
      simp [e_tv, e_ev, e_sv, e_b1, e_b2, x_o1, x_o2, r_O4, ls, q0, q0_n, k']
  intro m
  induction m with
  | zero => intro x4 x5 hm h0 h4; exact hend x4 x5 h4 (by omega)
  | succ m ih =>
    intro x4 x5 hm h0 h4
    by_cases q : x5 < M 197 d.toNat ∧ x4 = 1
    · obtain ⟨q0, q1⟩ := q
      subst q1
      have w1 : e_w (120 * d) = 120 * d := a_w_id (by omega) (by omega)
      have w2 : e_w (120 * d + x5) = 120 * d + x5 := a_w_id (by omega) (by omega)
      have w3 : e_w (120 * d + x5 + 1) = 120 * d + x5 + 1 := a_w_id (by omega) (by omega)
      have w4 : e_w (x5 + 2) = x5 + 2 := a_w_id (by omega) (by omega)
      have le := r_rdE (i := 120 * d + x5) (M := M) (by omega) (by omega)
      have le2 := r_rdE (i := 120 * d + x5 + 1) (M := M) (by omega) (by omega)
      obtain ⟨c, kc, -⟩ := r_currentOf (u := M 198 (120 * d + x5).toNat) (r_J_E hJ) hW.2.1 (r_pt_of hW hp)
      by_cases e : c = M 198 (120 * d + x5 + 1).toNat
      · obtain ⟨r, M', k', t⟩ := ih 1 (x5 + 2) (by omega) (by omega) (Or.inr rfl)
        refine ⟨r, M', ?_, t⟩
        rw [e] at kc
        rw [E_V_eq]
        show e_tv E_C (E_V 252) e_t252_11 [192, p, d, k, 1, x5] M = _
        unfold e_t252_11
        simp [e_tv, e_ev, e_sv, e_b1, e_b2, x_o1, x_o2, r_O4, r_O5, ls, q0, w1, w2, w3, w4, le, le2, kc, k']
      · obtain ⟨r, M', k', t⟩ := ih 0 (x5 + 2) (by omega) (by omega) (Or.inl rfl)
        refine ⟨r, M', ?_, t⟩
        rw [E_V_eq]
        show e_tv E_C (E_V 252) e_t252_11 [192, p, d, k, 1, x5] M = _
        unfold e_t252_11
        simp [e_tv, e_ev, e_sv, e_b1, e_b2, x_o1, x_o2, r_O4, r_O5, ls, q0, w1, w2, w3, w4, le, le2, kc, e, k']
    · exact hend x4 x5 h4 q
theorem r_fitsBy {p d k : Int} {M : EM} (hv : r_fv p d M) (hk : 0 ≤ k ∧ k < 1 + M 192 13 + M 192 14) : ∃ r M', E_C 252 [192, p, d, k] M = some (r, M') ∧ (r = 0 ∨ r = 1) ∧ r_fv p d M' ∧ a_fr r_wq M M' ∧ M' 192 13 = M 192 13 ∧ M' 192 14 = M 192 14 := by
  have hv' := hv
  obtain ⟨h1, h2, h3, h4, h5⟩ := hv'
  obtain ⟨M1, k1, a1, a2, a3, a4⟩ := r_takesFault h1 h5 hk
  have v1 := r_fv_to hv a1 a2 a3 a4
  obtain ⟨r, M2, k2, b0, b1, b2, b3, b4⟩ := r_fb_loop (k := k) a1 v1.2.1 h3 v1.2.2.2.1 40 1 0 (by decide) (by decide) (Or.inr rfl)
  refine ⟨r, M2, ?_, b0, r_fv_to v1 b1 b2 b3 b4, a_fr_tr a2 b2, b3.trans a3, b4.trans a4⟩
  rw [r_ent (show e_rok 252 [192, p, d, k] = true from decide_eq_true r_ref)]
  show e_tv E_C (E_V 252) e_t252_0 [192, p, d, k, 0, 0] M = _
  unfold e_t252_0
  simp [e_tv, e_ev, e_sv, e_b1, e_b2, x_o1, x_o2, k1, k2]
theorem r_fits_loop {p d i : Int} {c1 c2 : Int} : ∀ (m : Nat) (x5 x6 : Int) (M : EM), r_fv p d M → M 192 13 = c1 → M 192 14 = c2 → (1 + c1 + c2 - x6).toNat ≤ m → 0 ≤ x6 → ∃ r M', E_V 253 36 [192, p, d, i, 0, x5, x6] M = some (r, M') ∧ r_J M' ∧ a_fr r_wq M M' := by
  have hend : ∀ x5 x6 M, r_fv p d M → M 192 13 = c1 → M 192 14 = c2 → ¬ (x6 < 1 + c1 + c2) → ∃ r M', E_V 253 36 [192, p, d, i, 0, x5, x6] M = some (r, M') ∧ r_J M' ∧ a_fr r_wq M M' := by
    intro x5 x6 M hv e1 e2 q
    obtain ⟨⟨a1, a2⟩, a3, a4⟩ := hv.2.2.2.2
    have w1 : e_w (1 + M 192 13) = 1 + c1 := by rw [a_w_id (by omega) (by omega), e1]
    have w2 : e_w (1 + c1 + M 192 14) = 1 + c1 + c2 := by rw [a_w_id (by omega) (by omega), e2]
    by_cases c : i = -1
    · refine ⟨x5, M, ?_, hv.1, a_fr_rf⟩
      rw [E_V_eq]
      show e_tv E_C (E_V 253) e_t253_36 [192, p, d, i, 0, x5, x6] M = _
      unfold e_t253_36
      simp [e_tv, e_ev, e_sv, e_b1, e_b2, x_o1, x_o2, r_F13, r_F14, w1, w2, q, c]
    · refine ⟨-4, M, ?_, hv.1, a_fr_rf⟩
      rw [E_V_eq]
      show e_tv E_C (E_V 253) e_t253_36 [192, p, d, i, 0, x5, x6] M = _
      unfold e_t253_36
      simp [e_tv, e_ev, e_sv, e_b1, e_b2, x_o1, x_o2, r_F13, r_F14, w1, w2, q, c]
  intro m
  induction m with
  | zero => intro x5 x6 M hv e1 e2 hm h0; exact hend x5 x6 M hv e1 e2 (by omega)
  | succ m ih =>
    intro x5 x6 M hv e1 e2 hm h0
    rcases x_lt x6 (1 + c1 + c2) with ⟨q, q_n⟩ | ⟨q, q_n⟩
    · obtain ⟨⟨a1, a2⟩, a3, a4⟩ := hv.2.2.2.2
      have w1 : e_w (1 + M 192 13) = 1 + c1 := by rw [a_w_id (by omega) (by omega), e1]
      have w2 : e_w (1 + c1 + M 192 14) = 1 + c1 + c2 := by rw [a_w_id (by omega) (by omega), e2]
      have w3 : e_w (x6 + 1) = x6 + 1 := a_w_id (by omega) (by omega)
      obtain ⟨s, M1, k1, b0, b1, b2, b3, b4⟩ := r_fitsBy (k := x6) hv ⟨h0, by omega⟩
      have hgo : ∀ y5, ∃ r M', E_V 253 78 [192, p, d, i, 0, y5, x6] M1 = some (r, M') ∧ r_J M' ∧ a_fr r_wq M M' := by
        intro y5
        obtain ⟨r, M', k, t1, t2⟩ := ih y5 (x6 + 1) M1 b1 (b3.trans e1) (b4.trans e2) (by omega) (by omega)
        refine ⟨r, M', ?_, t1, a_fr_tr b2 t2⟩
        rw [E_V_eq]
        show e_tv E_C (E_V 253) e_t253_78 [192, p, d, i, 0, y5, x6] M1 = _
        unfold e_t253_78
        simp [e_tv, e_ev, e_sv, e_b1, e_b2, x_o1, x_o2, w3, k]
      rcases b0 with b0 | b0
      · subst b0
        obtain ⟨r, M', k, t⟩ := hgo x5
        refine ⟨r, M', ?_, t⟩
        rw [E_V_eq]
        show e_tv E_C (E_V 253) e_t253_36 [192, p, d, i, 0, x5, x6] M = _
        unfold e_t253_36
        simp [e_tv, e_ev, e_sv, e_b1, e_b2, x_o1, x_o2, r_F13, r_F14, w1, w2, q, q_n, k1, k]
      · subst b0
        by_cases c : x5 = i
        · refine ⟨x6, M1, ?_, b1.1, b2⟩
          rw [E_V_eq]
          show e_tv E_C (E_V 253) e_t253_36 [192, p, d, i, 0, x5, x6] M = _
          unfold e_t253_36
          simp [e_tv, e_ev, e_sv, e_b1, e_b2, x_o1, x_o2, r_F13, r_F14, w1, w2, q, q_n, k1, c]
        · obtain ⟨r, M', k, t⟩ := hgo (e_w (x5 + 1))
          refine ⟨r, M', ?_, t⟩
          rw [E_V_eq]
          show e_tv E_C (E_V 253) e_t253_36 [192, p, d, i, 0, x5, x6] M = _
          unfold e_t253_36
          simp [e_tv, e_ev, e_sv, e_b1, e_b2, x_o1, x_o2, r_F13, r_F14, w1, w2, q, q_n, k1, c, k]
    · exact hend x5 x6 M hv e1 e2 q
