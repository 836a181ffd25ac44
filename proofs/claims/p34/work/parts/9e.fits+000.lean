/-! FAULTS that FIT, the NEXT LOOK, by the reference -/
theorem r_takesFault {k : Int} {M : EM} (hJ : r_J M) (hc : r_cd 48 48 M) (hk : 0 ≤ k ∧ k < 1 + M 192 13 + M 192 14) : ∃ M', E_C 249 [192, k] M = some (0, M') ∧ r_J M' ∧ a_fr r_wq M M' ∧ M' 192 13 = M 192 13 ∧ M' 192 14 = M 192 14 := by
  obtain ⟨⟨c1, c2⟩, c3, c4⟩ := hc
  have hone : ∀ a b : Int, (-2147483648 ≤ a ∧ a ≤ 2147483647) → (-2147483648 ≤ b ∧ b ≤ 2147483647) → r_J (e_up (e_up M 192 23 a) 192 24 b) ∧ a_fr r_wq M (e_up (e_up M 192 23 a) 192 24 b) ∧ (e_up (e_up M 192 23 a) 192 24 b) 192 13 = M 192 13 ∧ (e_up (e_up M 192 23 a) 192 24 b) 192 14 = M 192 14 := by
    intro a b ha hb
    obtain ⟨u1, u2⟩ := r_qfld (k := 23) (v := a) (by decide) (by decide) ha hJ
    obtain ⟨v1, v2⟩ := r_qfld (k := 24) (v := b) (by decide) (by decide) hb u1
    exact ⟨v1, a_fr_tr u2 v2, (c_up_n (fun hc => absurd hc.2 (by decide))).trans (c_up_n (fun hc => absurd hc.2 (by decide))), (c_up_n (fun hc => absurd hc.2 (by decide))).trans (c_up_n (fun hc => absurd hc.2 (by decide)))⟩
  have w1 : e_w (k - 1) = k - 1 := a_w_id (by omega) (by omega)
  have w2 : e_w (k - 1 - M 192 13) = k - 1 - M 192 13 := a_w_id (by omega) (by omega)
  have e13 : ∀ a, (e_up M 192 23 a) 192 13 = M 192 13 := fun a => c_up_n (fun hc => absurd hc.2 (by decide))
  rcases x_lt 0 k with ⟨q1, q1_n⟩ | ⟨q1, q1_n⟩
  · rcases x_le k (M 192 13) with ⟨q2, q2_n⟩ | ⟨q2, q2_n⟩
    · have l1 := r_ld202 (i := k - 1) (M := M) (by omega) (by omega)
      refine ⟨_, ?_, hone (M 202 (k - 1).toNat) (-1) (c_M32 hJ.1 (by decide) (by decide +kernel)) (by decide)⟩
      rw [r_ent (show e_rok 249 [192, k] = true from decide_eq_true r_ref)]
      show e_tv E_C (E_V 249) e_t249_0 [192, k] M = _
      unfold e_t249_0
      simp [e_tv, e_ev, e_sv, e_b1, e_b2, x_o1, x_o2, r_O11, r_O12, r_F13, r_P23, r_P24, e13, q1, q1_n, q2, q2_n, w1, l1]
    · have l2 : ∀ a, e_op 60 [203, k - 1 - M 192 13] (e_up M 192 23 a) = some ((e_up M 192 23 a) 203 (k - 1 - M 192 13).toNat) := fun a => r_ld203 (by omega) (by omega)
      refine ⟨_, ?_, hone (-1) ((e_up M 192 23 (-1)) 203 (k - 1 - M 192 13).toNat) (by decide) ?_⟩
      · rw [r_ent (show e_rok 249 [192, k] = true from decide_eq_true r_ref)]
        show e_tv E_C (E_V 249) e_t249_0 [192, k] M = _
        unfold e_t249_0
        simp [e_tv, e_ev, e_sv, e_b1, e_b2, x_o1, x_o2, r_O11, r_O12, r_F13, r_P23, r_P24, e13, q1, q1_n, q2, q2_n, w1, w2, l2]
      · rw [c_up_n (fun hc => absurd hc.1 (by decide))]
        exact c_M32 hJ.1 (by decide) (by decide +kernel)
  · have q3 : ¬ (M 192 13 < k) := by omega
    have q3' : k ≤ M 192 13 := by omega
    refine ⟨_, ?_, hone (-1) (-1) (by decide) (by decide)⟩
    rw [r_ent (show e_rok 249 [192, k] = true from decide_eq_true r_ref)]
    show e_tv E_C (E_V 249) e_t249_0 [192, k] M = _
    unfold e_t249_0
    simp [e_tv, e_ev, e_sv, e_b1, e_b2, x_o1, x_o2, r_O11, r_O12, r_F13, r_P23, r_P24, e13, q1, q1_n, q3, q3']
theorem r_noFault {M : EM} (hJ : r_J M) : ∃ M', E_C 250 [192] M = some (0, M') ∧ r_J M' ∧ a_fr r_wq M M' ∧ M' 192 13 = M 192 13 ∧ M' 192 14 = M 192 14 := by
  obtain ⟨u1, u2⟩ := r_qfld (k := 23) (v := -1) (by decide) (by decide) (by decide) hJ
  obtain ⟨v1, v2⟩ := r_qfld (k := 24) (v := -1) (by decide) (by decide) (by decide) u1
  refine ⟨e_up (e_up M 192 23 (-1)) 192 24 (-1), ?_, v1, a_fr_tr u2 v2, (c_up_n (fun hc => absurd hc.2 (by decide))).trans (c_up_n (fun hc => absurd hc.2 (by decide))), (c_up_n (fun hc => absurd hc.2 (by decide))).trans (c_up_n (fun hc => absurd hc.2 (by decide)))⟩
  rw [r_ent (show e_rok 250 [192] = true from decide_eq_true r_ref)]
  show e_tv E_C (E_V 250) e_t250_0 [192] M = _
  unfold e_t250_0
  simp [e_tv, e_ev, e_sv, e_b1, e_b2, x_o1, x_o2, r_P23, r_P24]
theorem r_wrongFits {p d : Int} {M : EM} (hJ : r_J M) : ∃ r, E_C 251 [192, p, d] M = some (r, M) ∧ (r = 0 → (0 ≤ p ∧ p < r_G M 1198) ∧ (0 ≤ d ∧ d ≤ 7) ∧ M 197 d.toNat ≤ 40) := by
  have hW := (r_J_E hJ).2.1
  by_cases q0 : 0 ≤ p ∧ p < r_G M 1198
  · have ip := r_ip1 hW q0
    obtain ⟨n, kn, -, hn⟩ := r_wrongRow d 0 M
    by_cases q : n = 0
    · subst q
      have hd := hn rfl
      have ls := (r_isD d M hd).2.2.1
      by_cases c1 : (M 197 d.toNat).tmod 2 = 1
      · refine ⟨-13, ?_, fun h => absurd h (by decide)⟩
        rw [r_ent (show e_rok 251 [192, p, d] = true from decide_eq_true r_ref)]
        show e_tv E_C (E_V 251) e_t251_0 [192, p, d, 0] M = _
        unfold e_t251_0
        simp [e_tv, e_ev, e_sv, e_b1, e_b2, x_o1, x_o2, r_O4, ip, kn, ls, c1]
      · rcases x_lt 40 (M 197 d.toNat) with ⟨c2, c2_n⟩ | ⟨c2, c2_n⟩
        · refine ⟨-13, ?_, fun h => absurd h (by decide)⟩
          rw [r_ent (show e_rok 251 [192, p, d] = true from decide_eq_true r_ref)]
          show e_tv E_C (E_V 251) e_t251_0 [192, p, d, 0] M = _
          unfold e_t251_0
          simp [e_tv, e_ev, e_sv, e_b1, e_b2, x_o1, x_o2, r_O4, ip, kn, ls, c1, c2, c2_n]
        · refine ⟨0, ?_, fun _ => ⟨q0, hd, by omega⟩⟩
          rw [r_ent (show e_rok 251 [192, p, d] = true from decide_eq_true r_ref)]
          show e_tv E_C (E_V 251) e_t251_0 [192, p, d, 0] M = _
          unfold e_t251_0
          simp [e_tv, e_ev, e_sv, e_b1, e_b2, x_o1, x_o2, r_O4, ip, kn, ls, c1, c2, c2_n]
    · refine ⟨n, ?_, fun h => absurd h q⟩
      rw [r_ent (show e_rok 251 [192, p, d] = true from decide_eq_true r_ref)]
      show e_tv E_C (E_V 251) e_t251_0 [192, p, d, 0] M = _
      unfold e_t251_0
      simp [e_tv, e_ev, e_sv, e_b1, e_b2, x_o1, x_o2, ip, kn, q]
  · have ip := r_ip0 hW q0
    refine ⟨-1, ?_, fun h => absurd h (by decide)⟩
    rw [r_ent (show e_rok 251 [192, p, d] = true from decide_eq_true r_ref)]
    show e_tv E_C (E_V 251) e_t251_0 [192, p, d, 0] M = _
    unfold e_t251_0
    simp [e_tv, e_ev, e_sv, e_b1, e_b2, x_o1, x_o2, ip]
/-- while FAULTS are looked at -/
def r_fv (p d : Int) (M : EM) : Prop := r_J M ∧ (0 ≤ p ∧ p < r_G M 1198) ∧ (0 ≤ d ∧ d ≤ 7) ∧ M 197 d.toNat ≤ 40 ∧ r_cd 48 48 M
theorem r_fv_to {p d : Int} {M M' : EM} (h : r_fv p d M) (hJ : r_J M') (hf : a_fr r_wq M M') (e3 : M' 192 13 = M 192 13) (e4 : M' 192 14 = M 192 14) : r_fv p d M' := by
  obtain ⟨h1, h2, h3, h4, h5⟩ := h
  refine ⟨hJ, by rw [r_q_G hf]; exact h2, h3, by rw [r_q_same hf (by decide)]; exact h4, ?_⟩
  unfold r_cd
  rw [e3, e4]
  exact h5
