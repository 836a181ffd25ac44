/-! WASHING by the reference -/
def r_qL : List (Nat × Nat) := [(202, 47), (203, 47), (205, 999), (206, 99), (207, 1023), (208, 1023), (209, 799), (210, 402), (211, 402), (212, 11736)]
theorem r_qL_ok : ∀ q ∈ r_qL, q.1 ≠ 5 ∧ q.1 ≠ e_OUT ∧ a_mi q.1 = [] ∧ (q.1, 0, q.2) ∈ r_wq ∧ q.1 ≠ 192 := by decide +kernel
theorem r_qarr {M : EM} {a n k : Nat} {v : Int} (ha : (a, n) ∈ r_qL) (hk : k ≤ n) (hv : -2147483648 ≤ v ∧ v ≤ 2147483647) (hJ : r_J M) : r_J (e_up M a k v) ∧ a_fr r_wq M (e_up M a k v) := by
  obtain ⟨h1, h2, h3, h4, h5⟩ := r_qL_ok _ ha
  have hf : a_fr r_wq M (e_up M a k v) := fun b j hw => c_up_n (fun hc => hw _ h4 ⟨hc.1.symm, Nat.zero_le _, by
    have := hc.2
    show j ≤ n
    omega⟩)
  have hM := r_up (v := v) (k := k) h1 h2 h3 hv hJ.1
  exact ⟨r_J_q hJ hM hf (by rw [c_up_n (fun hc => h5 hc.1.symm)]; exact hJ.2.2.2.2), hf⟩
theorem r_qfld {M : EM} {k : Nat} {v : Int} (hk : 10 ≤ k ∧ k ≤ 35) (hk2 : k ≠ 20) (hv : -2147483648 ≤ v ∧ v ≤ 2147483647) (hJ : r_J M) : r_J (e_up M 192 k v) ∧ a_fr r_wq M (e_up M 192 k v) := by
  obtain ⟨f1, f2, f3⟩ := r_fup (v := v) hk hv hJ.1
  exact ⟨r_J_q hJ f1 f2 ((r_up20 hk2).trans hJ.2.2.2.2), f2⟩
theorem r_rd8 {a : Int} {d : Int} {M : EM} (hd : 0 ≤ d ∧ d ≤ 7) : e_op 60 [197, d] M = some (M 197 d.toNat) := (r_isD d M hd).2.2.1
theorem r_rdE {i : Int} {M : EM} (h0 : 0 ≤ i) (hi : i < 960) : e_op 60 [198, i] M = some (M 198 i.toNat) := r_ld (n := 960) (by decide) (by decide +kernel) (by decide +kernel) h0 hi
theorem r_rdA {a : Int} {i : Int} {n : Nat} {M : EM} (h : (a.toNat, n) ∈ r_qL) (h8 : 8 ≤ a) (hs : e_sh a.toNat = (100, n + 1)) (h0 : 0 ≤ i) (hi : i ≤ n) : e_op 60 [a, i] M = some (M a.toNat i.toNat) := r_ld (n := n + 1) h8 (by
  have key : ∀ q ∈ r_qL, q.1 < e_N := by decide +kernel
  exact key _ h) hs h0 (by omega)
theorem r_stA {a : Int} {i v : Int} {n : Nat} {M : EM} (h : (a.toNat, n) ∈ r_qL) (h8 : 8 ≤ a) (hs : e_sh a.toNat = (100, n + 1)) (h0 : 0 ≤ i) (hi : i ≤ n) : e_st 100 [a, i, v] M = some (e_up M a.toNat i.toNat v) := r_st (n := n + 1) h8 (by
  have key : ∀ q ∈ r_qL, q.1 < e_N := by decide +kernel
  exact key _ h) hs h0 (by omega)
theorem r_ww_loop {d t x3 : Int} {M : EM} (hI : r_I M) (hd : 0 ≤ d ∧ d ≤ 7) : ∀ (m : Nat) (x4 : Int), (120 - x4).toNat ≤ m → 0 ≤ x4 → ∃ r, E_V 232 59 [192, d, t, x3, x4] M = some (r, M) ∧ (r = 0 ∨ r = -13) := by
  have hz := hI d.toNat (by omega)
  have ls := (r_isD d M hd).2.2.1
  have hend : ∀ x4, ¬ (x4 < M 197 d.toNat) → ∃ r, E_V 232 59 [192, d, t, x3, x4] M = some (r, M) ∧ (r = 0 ∨ r = -13) := by
    intro x4 q
    refine ⟨0, ?_, Or.inl rfl⟩
    rw [E_V_eq]
    show e_tv E_C (E_V 232) e_t232_59 [192, d, t, x3, x4] M = _
    unfold e_t232_59
    simp [e_tv, e_ev, e_sv, e_b1, e_b2, x_o1, x_o2, r_O4, ls, q]
  intro m
  induction m with
  | zero => intro x4 hm h0; exact hend x4 (by omega)
  | succ m ih =>
    intro x4 hm h0
    rcases x_lt x4 (M 197 d.toNat) with ⟨q, q_n⟩ | ⟨q, q_n⟩
    · have w1 : e_w (120 * d) = 120 * d := a_w_id (by omega) (by omega)
      have w2 : e_w (120 * d + x4) = 120 * d + x4 := a_w_id (by omega) (by omega)
      have w4 : e_w (x4 + 1) = x4 + 1 := a_w_id (by omega) (by omega)
      have le := r_rdE (i := 120 * d + x4) (M := M) (by omega) (by omega)
      by_cases c : 0 ≤ M 198 (120 * d + x4).toNat ∧ M 198 (120 * d + x4).toNat ≤ 999
      · have i1 := r_in1 (M := M) c
        obtain ⟨r, k, hr⟩ := ih (x4 + 1) (by omega) (by omega)
        refine ⟨r, ?_, hr⟩
        rw [E_V_eq]
        show e_tv E_C (E_V 232) e_t232_59 [192, d, t, x3, x4] M = _
        unfold e_t232_59
        simp [e_tv, e_ev, e_sv, e_b1, e_b2, x_o1, x_o2, r_O4, r_O5, ls, q, q_n, w1, w2, w4, le, i1, k]
      · have i1 := r_in0 (M := M) c
        refine ⟨-13, ?_, Or.inr rfl⟩
        rw [E_V_eq]
        show e_tv E_C (E_V 232) e_t232_59 [192, d, t, x3, x4] M = _
        unfold e_t232_59
        simp [e_tv, e_ev, e_sv, e_b1, e_b2, x_o1, x_o2, r_O4, r_O5, ls, q, q_n, w1, w2, le, i1]
    · exact hend x4 q
theorem r_wrongWash {d t : Int} {M : EM} (hI : r_I M) : ∃ r, E_C 232 [192, d, t] M = some (r, M) ∧ (r = 0 → (0 ≤ d ∧ d ≤ 7) ∧ 1 ≤ M 197 d.toNat ∧ M 197 d.toNat ≤ 30) := by
  have ks := r_isShelf d M
  by_cases q0 : 0 ≤ d ∧ d ≤ 7
  · rw [if_pos q0] at ks
    have ls := (r_isD d M q0).2.2.1
    rcases x_le 0 t with ⟨q1, q1_n⟩ | ⟨q1, q1_n⟩
    · rcases x_lt 20 (e_w (t.tdiv 10000)) with ⟨q2, q2_n⟩ | ⟨q2, q2_n⟩
      · refine ⟨-1, ?_, fun h => absurd h (by decide)⟩
        rw [r_ent (show e_rok 232 [192, d, t] = true from decide_eq_true r_ref)]
        show e_tv E_C (E_V 232) e_t232_0 [192, d, t, 0, 0] M = _
        unfold e_t232_0
        simp [e_tv, e_ev, e_sv, e_b1, e_b2, x_o1, x_o2, ks, q1, q1_n, q2, q2_n]
      · obtain ⟨n, kn, -, hn⟩ := r_wrongRow d 1 M
        by_cases q3 : n = 0
        · subst q3
          by_cases q4 : 1 ≤ M 197 d.toNat ∧ M 197 d.toNat ≤ 30
          · have i1 := r_in1 (M := M) q4
            obtain ⟨r, k, hr⟩ := r_ww_loop (t := t) (x3 := 0) hI q0 120 0 (by decide) (by decide)
            refine ⟨r, ?_, fun _ => ⟨q0, q4⟩⟩
            rw [r_ent (show e_rok 232 [192, d, t] = true from decide_eq_true r_ref)]
            show e_tv E_C (E_V 232) e_t232_0 [192, d, t, 0, 0] M = _
            unfold e_t232_0
            simp [e_tv, e_ev, e_sv, e_b1, e_b2, x_o1, x_o2, r_O4, ks, q1, q1_n, q2, q2_n, kn, ls, i1, k]
          · have i1 := r_in0 (M := M) q4
            refine ⟨-13, ?_, fun h => absurd h (by decide)⟩
            rw [r_ent (show e_rok 232 [192, d, t] = true from decide_eq_true r_ref)]
            show e_tv E_C (E_V 232) e_t232_0 [192, d, t, 0, 0] M = _
            unfold e_t232_0
            simp [e_tv, e_ev, e_sv, e_b1, e_b2, x_o1, x_o2, r_O4, ks, q1, q1_n, q2, q2_n, kn, ls, i1]
        · refine ⟨n, ?_, fun h => absurd h q3⟩
          rw [r_ent (show e_rok 232 [192, d, t] = true from decide_eq_true r_ref)]
          show e_tv E_C (E_V 232) e_t232_0 [192, d, t, 0, 0] M = _
          unfold e_t232_0
          simp [e_tv, e_ev, e_sv, e_b1, e_b2, x_o1, x_o2, ks, q1, q1_n, q2, q2_n, kn, q3]
    · refine ⟨-1, ?_, fun h => absurd h (by decide)⟩
      rw [r_ent (show e_rok 232 [192, d, t] = true from decide_eq_true r_ref)]
      show e_tv E_C (E_V 232) e_t232_0 [192, d, t, 0, 0] M = _
      unfold e_t232_0
      simp [e_tv, e_ev, e_sv, e_b1, e_b2, x_o1, x_o2, ks, q1, q1_n]
  · rw [if_neg q0] at ks
    refine ⟨-1, ?_, fun h => absurd h (by decide)⟩
    rw [r_ent (show e_rok 232 [192, d, t] = true from decide_eq_true r_ref)]
    show e_tv E_C (E_V 232) e_t232_0 [192, d, t, 0, 0] M = _
    unfold e_t232_0
    simp [e_tv, e_ev, e_sv, e_b1, e_b2, x_o1, x_o2, ks]
