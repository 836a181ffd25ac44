theorem r_lesser {a b : Int} {M : EM} : E_C 174 [a, b] M = some (if a < b then a else b, M) := by
  rw [r_ent (show e_rok 174 [a, b] = true from rfl)]
  show e_tv E_C (E_V 174) e_t174_0 [a, b] M = _
  unfold e_t174_0
  rcases x_lt a b with ⟨c, c_n⟩ | ⟨c, c_n⟩
  · simp [e_tv, e_ev, e_sv, e_b1, e_b2, x_o1, x_o2, c, c_n]
  · simp [e_tv, e_ev, e_sv, e_b1, e_b2, x_o1, x_o2, c, c_n]
theorem r_gain {k s : Int} {M : EM} (hb : 0 ≤ M 192 35 ∧ M 192 35 ≤ 840) (hk : 0 ≤ k ∧ k < 120) : r_P 233 [192, k, s] M := by
  have w1 : e_w (M 192 35 + k) = M 192 35 + k := a_w_id (by omega) (by omega)
  have le := r_rdE (i := M 192 35 + k) (M := M) (by omega) (by omega)
  have kl := r_lesser (a := 50) (b := e_w (M 192 33 * s)) (M := M)
  generalize (if 50 < e_w (M 192 33 * s) then (50 : Int) else e_w (M 192 33 * s)) = z at kl
  refine ⟨e_w ((e_w (M 198 (M 192 35 + k).toNat * e_w (100 - z))).tdiv 100), ?_, a_w _⟩
  rw [r_ent (show e_rok 233 [192, k, s] = true from decide_eq_true r_ref)]
  show e_tv E_C (E_V 233) e_t233_0 [192, k, s] M = _
  unfold e_t233_0
  simp [e_tv, e_ev, e_sv, e_b1, e_b2, x_o1, x_o2, r_O5, r_F33, r_F35, w1, le, kl]
theorem r_pays {k s : Int} {M : EM} (hb : 0 ≤ M 192 35 ∧ M 192 35 ≤ 840) (hk : 0 ≤ k ∧ k < 30) (hs : 0 ≤ s ∧ s ≤ 30) : ∃ r, E_C 234 [192, k, s] M = some (r, M) ∧ (r = 0 ∨ r = 1) := by
  have w1 : e_w (k + 1) = k + 1 := a_w_id (by omega) (by omega)
  have w2 : e_w (32 * (k + 1)) = 32 * (k + 1) := a_w_id (by omega) (by omega)
  have w3 : e_w (32 * (k + 1) + s) = 32 * (k + 1) + s := a_w_id (by omega) (by omega)
  have w4 : e_w (32 * (k + 1) + s + 1) = 32 * (k + 1) + s + 1 := a_w_id (by omega) (by omega)
  have w5 : e_w (32 * (k + 1) + 1) = 32 * (k + 1) + 1 := a_w_id (by omega) (by omega)
  obtain ⟨a, ka, -⟩ := r_gain (k := k) (s := s) hb ⟨hk.1, by omega⟩
  obtain ⟨b, kb, -⟩ := r_gain (k := k) (s := 0) hb ⟨hk.1, by omega⟩
  have l1 : e_op 60 [207, 32 * (k + 1) + s + 1] M = some (M 207 (32 * (k + 1) + s + 1).toNat) := r_rdA (n := 1023) (by decide) (by decide) (by decide +kernel) (by omega) (by omega)
  have l2 : e_op 60 [207, 32 * (k + 1) + 1] M = some (M 207 (32 * (k + 1) + 1).toNat) := r_rdA (n := 1023) (by decide) (by decide) (by decide +kernel) (by omega) (by omega)
  have l3 : e_op 60 [208, 32 * (k + 1) + s + 1] M = some (M 208 (32 * (k + 1) + s + 1).toNat) := r_rdA (n := 1023) (by decide) (by decide) (by decide +kernel) (by omega) (by omega)
  have l4 : e_op 60 [208, 32 * (k + 1) + 1] M = some (M 208 (32 * (k + 1) + 1).toNat) := r_rdA (n := 1023) (by decide) (by decide) (by decide +kernel) (by omega) (by omega)
  generalize hx : e_w (a + M 207 (32 * (k + 1) + s + 1).toNat) = x
  generalize hy : e_w (e_w (b - M 192 34) + M 207 (32 * (k + 1) + 1).toNat) = y
  rcases x_le y x with ⟨c1, c1_n⟩ | ⟨c1, c1_n⟩
  · by_cases c2 : y = x
    · rcases x_lt (e_w (M 208 (32 * (k + 1) + 1).toNat + 1)) (M 208 (32 * (k + 1) + s + 1).toNat) with ⟨c3, c3_n⟩ | ⟨c3, c3_n⟩
      · refine ⟨1, ?_, Or.inr rfl⟩
        rw [r_ent (show e_rok 234 [192, k, s] = true from decide_eq_true r_ref)]
        show e_tv E_C (E_V 234) e_t234_0 [192, k, s, 0, 0] M = _
        unfold e_t234_0
        simp [e_tv, e_ev, e_sv, e_b1, e_b2, x_o1, x_o2, r_O31, r_O32, r_F34, w1, w2, w3, w4, w5, ka, kb, l1, l2, l3, l4, hx, hy, c2, c3, c3_n]
      · refine ⟨0, ?_, Or.inl rfl⟩
        rw [r_ent (show e_rok 234 [192, k, s] = true from decide_eq_true r_ref)]
        show e_tv E_C (E_V 234) e_t234_0 [192, k, s, 0, 0] M = _
        unfold e_t234_0
        simp [e_tv, e_ev, e_sv, e_b1, e_b2, x_o1, x_o2, r_O31, r_O32, r_F34, w1, w2, w3, w4, w5, ka, kb, l1, l2, l3, l4, hx, hy, c2, c3, c3_n]
    · refine ⟨0, ?_, Or.inl rfl⟩
      rw [r_ent (show e_rok 234 [192, k, s] = true from decide_eq_true r_ref)]
      show e_tv E_C (E_V 234) e_t234_0 [192, k, s, 0, 0] M = _
      unfold e_t234_0
      simp [e_tv, e_ev, e_sv, e_b1, e_b2, x_o1, x_o2, r_O31, r_O32, r_F34, w1, w2, w3, w4, w5, ka, kb, l1, l2, l3, l4, hx, hy, c1, c1_n, c2]
  · refine ⟨1, ?_, Or.inr rfl⟩
    rw [r_ent (show e_rok 234 [192, k, s] = true from decide_eq_true r_ref)]
    show e_tv E_C (E_V 234) e_t234_0 [192, k, s, 0, 0] M = _
    unfold e_t234_0
    simp [e_tv, e_ev, e_sv, e_b1, e_b2, x_o1, x_o2, r_O31, r_O32, r_F34, w1, w2, w3, w4, w5, ka, kb, l1, l2, l3, l4, hx, hy, c1, c1_n]
/-- while washing days are planned -/
def r_wv (d : Int) (M : EM) : Prop := r_J M ∧ M 192 35 = 120 * d ∧ 1 ≤ M 197 d.toNat ∧ M 197 d.toNat ≤ 30
theorem r_wv_a {d : Int} {M : EM} {a k : Nat} {v : Int} (h : a = 207 ∨ a = 208) (hk : k ≤ 1023) (hv : -2147483648 ≤ v ∧ v ≤ 2147483647) (hw : r_wv d M) : r_wv d (e_up M a k v) ∧ a_fr r_wq M (e_up M a k v) := by
  obtain ⟨h1, h2, h3⟩ := hw
  have ha : (a, 1023) ∈ r_qL := by rcases h with rfl | rfl <;> decide
  obtain ⟨q1, q2⟩ := r_qarr ha hk hv h1
  refine ⟨⟨q1, ?_, ?_⟩, q2⟩
  · rw [c_up_n (fun hc => by omega)]; exact h2
  · rw [r_wq_out q2 (by omega)]; exact h3
theorem r_fw_d {d t : Int} (hd : 0 ≤ d ∧ d ≤ 7) {x3 : Int} (h3 : 0 ≤ x3 ∧ x3 < 30) (H : ∀ M, r_wv d M → ∀ x4 x5 x6, ∃ M', E_V 235 83 [192, d, t, x3 - 1, x4, x5, x6] M = some (0, M') ∧ r_wv d M' ∧ a_fr r_wq M M') : ∀ (m : Nat) (x4 x5 x6 : Int) (M : EM), r_wv d M → (x3 + 1 - x4).toNat ≤ m → 0 ≤ x4 → ∃ M', E_V 235 90 [192, d, t, x3, x4, x5, x6] M = some (0, M') ∧ r_wv d M' ∧ a_fr r_wq M M' := by
  have w0 : e_w (x3 + -1) = x3 - 1 := a_w_id (by omega) (by omega)
  have hend : ∀ x4 x5 x6 M, r_wv d M → ¬ (x4 ≤ x3) → ∃ M', E_V 235 90 [192, d, t, x3, x4, x5, x6] M = some (0, M') ∧ r_wv d M' ∧ a_fr r_wq M M' := by
    intro x4 x5 x6 M hw q
    obtain ⟨M', k, t1⟩ := H M hw x4 x5 x6
    refine ⟨M', ?_, t1⟩
    rw [E_V_eq]
    show e_tv E_C (E_V 235) e_t235_90 [192, d, t, x3, x4, x5, x6] M = _
    unfold e_t235_90
    simp [e_tv, e_ev, e_sv, e_b1, e_b2, x_o1, x_o2, q, w0, k]
  intro m
  induction m with
  | zero => intro x4 x5 x6 M hw hm h0; exact hend x4 x5 x6 M hw (by omega)
  | succ m ih =>
    intro x4 x5 x6 M hw hm h0
    rcases x_le x4 x3 with ⟨q, q_n⟩ | ⟨q, q_n⟩
    · have hw' := hw
      obtain ⟨v1, v2, v3⟩ := hw'
      have hb : 0 ≤ M 192 35 ∧ M 192 35 ≤ 840 := by omega
      have w1 : e_w (x4 + 1) = x4 + 1 := a_w_id (by omega) (by omega)
      have w2 : e_w (x3 + 1) = x3 + 1 := a_w_id (by omega) (by omega)
      have w3 : e_w (32 * (x3 + 1)) = 32 * (x3 + 1) := a_w_id (by omega) (by omega)
      have w4 : e_w (32 * (x3 + 1) + 1) = 32 * (x3 + 1) + 1 := a_w_id (by omega) (by omega)
      have w5 : e_w (32 * (x3 + 1) + (x4 + 1)) = 32 * (x3 + 1) + (x4 + 1) := a_w_id (by omega) (by omega)
      have w6 : e_w (32 * x3) = 32 * x3 := a_w_id (by omega) (by omega)
      have w7 : e_w (32 * x3 + x4) = 32 * x3 + x4 := a_w_id (by omega) (by omega)
      obtain ⟨s, ks, hs⟩ := r_pays (k := x3) (s := x4) hb h3 ⟨h0, by omega⟩
      have st : ∀ v M, e_st 100 [207, 32 * x3 + x4, v] M = some (e_up M 207 (32 * x3 + x4).toNat v) := fun v M => r_stA (a := 207) (n := 1023) (by decide) (by decide) (by decide +kernel) (by omega) (by omega)
      have st2 : ∀ v M, e_st 100 [208, 32 * x3 + x4, v] M = some (e_up M 208 (32 * x3 + x4).toNat v) := fun v M => r_stA (a := 208) (n := 1023) (by decide) (by decide) (by decide +kernel) (by omega) (by omega)
      have ld : ∀ j M, 0 ≤ j → j ≤ 1023 → e_op 60 [207, j] M = some (M 207 j.toNat) := fun j M j0 j1 => r_rdA (a := 207) (n := 1023) (by decide) (by decide) (by decide +kernel) j0 j1
      have ld2 : ∀ j M, 0 ≤ j → j ≤ 1023 → e_op 60 [208, j] M = some (M 208 j.toNat) := fun j M j0 j1 => r_rdA (a := 208) (n := 1023) (by decide) (by decide) (by decide +kernel) j0 j1
      have key : ∃ v1 v2 y5 y6, (-2147483648 ≤ v1 ∧ v1 ≤ 2147483647) ∧ (-2147483648 ≤ v2 ∧ v2 ≤ 2147483647) ∧ ∀ t', e_tv E_C (E_V 235) e_t235_90 [192, d, t, x3, x4, x5, x6] M = t' ↔ E_V 235 90 [192, d, t, x3, x4 + 1, y5, y6] (e_up (e_up M 207 (32 * x3 + x4).toNat v1) 208 (32 * x3 + x4).toNat v2) = t' := by
        rcases hs with hs | hs
        · subst hs
          obtain ⟨g, kg, hg⟩ := r_gain (k := x3) (s := x4) hb ⟨h3.1, by omega⟩
          have l1 := ld (32 * (x3 + 1) + (x4 + 1)) M (by omega) (by omega)
          have l2 := fun v => ld2 (32 * (x3 + 1) + (x4 + 1)) (e_up M 207 (32 * x3 + x4).toNat v) (by omega) (by omega)
          refine ⟨e_w (e_w g + M 207 (32 * (x3 + 1) + (x4 + 1)).toNat), e_w (e_up M 207 (32 * x3 + x4).toNat (e_w (e_w g + M 207 (32 * (x3 + 1) + (x4 + 1)).toNat)) 208 (32 * (x3 + 1) + (x4 + 1)).toNat), 0, (32 * (x3 + 1) + (x4 + 1)), a_w _, a_w _, fun t' => ?_⟩
          unfold e_t235_90
          simp [e_tv, e_ev, e_sv, e_b1, e_b2, x_o1, x_o2, r_O31, r_O32, r_F34, q, q_n, ks, kg, w1, w2, w3, w4, w5, w6, w7, l1, l2, st, st2]
        · subst hs
          obtain ⟨g, kg, hg⟩ := r_gain (k := x3) (s := 0) hb ⟨h3.1, by omega⟩
          have l1 := ld (32 * (x3 + 1) + 1) M (by omega) (by omega)
          have l2 := fun v => ld2 (32 * (x3 + 1) + 1) (e_up M 207 (32 * x3 + x4).toNat v) (by omega) (by omega)
          refine ⟨e_w (e_w (g - M 192 34) + M 207 (32 * (x3 + 1) + 1).toNat), e_w (e_up M 207 (32 * x3 + x4).toNat (e_w (e_w (g - M 192 34) + M 207 (32 * (x3 + 1) + 1).toNat)) 208 (32 * (x3 + 1) + 1).toNat + 1), 1, (32 * (x3 + 1) + 1), a_w _, a_w _, fun t' => ?_⟩
          unfold e_t235_90
          simp [e_tv, e_ev, e_sv, e_b1, e_b2, x_o1, x_o2, r_O31, r_O32, r_F34, q, q_n, ks, kg, w1, w2, w3, w4, w5, w6, w7, l1, l2, st, st2]
      obtain ⟨v1, v2, y5, y6, hv1, hv2, key⟩ := key
      obtain ⟨a1, a2⟩ := r_wv_a (d := d) (M := M) (k := (32 * x3 + x4).toNat) (v := v1) (Or.inl rfl) (by omega) hv1 hw
      obtain ⟨b1, b2⟩ := r_wv_a (d := d) (k := (32 * x3 + x4).toNat) (v := v2) (Or.inr rfl) (by omega) hv2 a1
      obtain ⟨M', k, t1, t2⟩ := ih (x4 + 1) y5 y6 _ b1 (by omega) (by omega)
      exact ⟨M', (E_V_eq 235 90 _ M).trans ((key _).mpr k), t1, a_fr_tr a2 (a_fr_tr b2 t2)⟩
    · exact hend x4 x5 x6 M hw q
