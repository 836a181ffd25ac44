theorem r_fw_k {d t : Int} (hd : 0 ≤ d ∧ d ≤ 7) : ∀ (m : Nat) (x3 x4 x5 x6 : Int) (M : EM), r_wv d M → (x3 + 1).toNat ≤ m → x3 < 30 → -1 ≤ x3 → ∃ M', E_V 235 83 [192, d, t, x3, x4, x5, x6] M = some (0, M') ∧ r_wv d M' ∧ a_fr r_wq M M' := by
  have hend : ∀ x3 x4 x5 x6 M, r_wv d M → ¬ (0 ≤ x3) → ∃ M', E_V 235 83 [192, d, t, x3, x4, x5, x6] M = some (0, M') ∧ r_wv d M' ∧ a_fr r_wq M M' := by
    intro x3 x4 x5 x6 M hw q
    refine ⟨M, ?_, hw, a_fr_rf⟩
    rw [E_V_eq]
    show e_tv E_C (E_V 235) e_t235_83 [192, d, t, x3, x4, x5, x6] M = _
    unfold e_t235_83
    simp [e_tv, e_ev, e_sv, e_b1, e_b2, x_o1, x_o2, q]
  intro m
  induction m with
  | zero => intro x3 x4 x5 x6 M hw hm h0 h1; exact hend x3 x4 x5 x6 M hw (by omega)
  | succ m ih =>
    intro x3 x4 x5 x6 M hw hm h0 h1
    rcases x_le 0 x3 with ⟨q, q_n⟩ | ⟨q, q_n⟩
    · obtain ⟨M', k, t1⟩ := r_fw_d (t := t) hd ⟨q, h0⟩ (fun M1 hw1 y4 y5 y6 => ih (x3 - 1) y4 y5 y6 M1 hw1 (by omega) (by omega) (by omega)) _ 0 x5 x6 M hw (Nat.le_refl _) (by decide)
      refine ⟨M', ?_, t1⟩
      rw [E_V_eq]
      show e_tv E_C (E_V 235) e_t235_83 [192, d, t, x3, x4, x5, x6] M = _
      unfold e_t235_83
      simp [e_tv, e_ev, e_sv, e_b1, e_b2, x_o1, x_o2, q, q_n, k]
    · exact hend x3 x4 x5 x6 M hw q
theorem r_fw_c {d t : Int} (hd : 0 ≤ d ∧ d ≤ 7) : ∀ (m : Nat) (x3 x4 x5 x6 : Int) (M : EM), r_wv d M → (32 - x3).toNat ≤ m → 0 ≤ x3 → ∃ M', E_V 235 28 [192, d, t, x3, x4, x5, x6] M = some (0, M') ∧ r_wv d M' ∧ a_fr r_wq M M' := by
  have hend : ∀ x3 x4 x5 x6 M, r_wv d M → ¬ (x3 < 32) → ∃ M', E_V 235 28 [192, d, t, x3, x4, x5, x6] M = some (0, M') ∧ r_wv d M' ∧ a_fr r_wq M M' := by
    intro x3 x4 x5 x6 M hw q
    have ls := (r_isD d M hd).2.2.1
    have h3 := hw.2.2
    have w1 : e_w (M 197 d.toNat - 1) = M 197 d.toNat - 1 := a_w_id (by omega) (by omega)
    obtain ⟨M', k, t1⟩ := r_fw_k (t := t) hd 30 (M 197 d.toNat - 1) x4 x5 x6 M hw (by omega) (by omega) (by omega)
    refine ⟨M', ?_, t1⟩
    rw [E_V_eq]
    show e_tv E_C (E_V 235) e_t235_28 [192, d, t, x3, x4, x5, x6] M = _
    unfold e_t235_28
    simp [e_tv, e_ev, e_sv, e_b1, e_b2, x_o1, x_o2, r_O4, q, ls, w1, k]
  intro m
  induction m with
  | zero => intro x3 x4 x5 x6 M hw hm h0; exact hend x3 x4 x5 x6 M hw (by omega)
  | succ m ih =>
    intro x3 x4 x5 x6 M hw hm h0
    rcases x_lt x3 32 with ⟨q, q_n⟩ | ⟨q, q_n⟩
    · have ls := (r_isD d M hd).2.2.1
      have h3 := hw.2.2
      have w1 : e_w (x3 + 1) = x3 + 1 := a_w_id (by omega) (by omega)
      have w6 : e_w (32 * M 197 d.toNat) = 32 * M 197 d.toNat := a_w_id (by omega) (by omega)
      have w7 : e_w (32 * M 197 d.toNat + x3) = 32 * M 197 d.toNat + x3 := a_w_id (by omega) (by omega)
      have st : ∀ v M1, e_st 100 [207, 32 * M 197 d.toNat + x3, v] M1 = some (e_up M1 207 (32 * M 197 d.toNat + x3).toNat v) := fun v M1 => r_stA (a := 207) (n := 1023) (by decide) (by decide) (by decide +kernel) (by omega) (by omega)
      have st2 : ∀ v M1, e_st 100 [208, 32 * M 197 d.toNat + x3, v] M1 = some (e_up M1 208 (32 * M 197 d.toNat + x3).toNat v) := fun v M1 => r_stA (a := 208) (n := 1023) (by decide) (by decide) (by decide +kernel) (by omega) (by omega)
      obtain ⟨a1, a2⟩ := r_wv_a (d := d) (M := M) (k := (32 * M 197 d.toNat + x3).toNat) (v := 0) (Or.inl rfl) (by omega) (by decide) hw
      obtain ⟨b1, b2⟩ := r_wv_a (d := d) (k := (32 * M 197 d.toNat + x3).toNat) (v := 0) (Or.inr rfl) (by omega) (by decide) a1
      obtain ⟨M', k, t1, t2⟩ := ih (x3 + 1) x4 x5 x6 _ b1 (by omega) (by omega)
      have ls2 := (r_isD d (e_up M 207 (32 * M 197 d.toNat + x3).toNat 0) hd).2.2.1
      rw [c_up_n (fun hc => absurd hc.1 (by decide))] at ls2
      refine ⟨M', ?_, t1, a_fr_tr a2 (a_fr_tr b2 t2)⟩
      rw [E_V_eq]
      show e_tv E_C (E_V 235) e_t235_28 [192, d, t, x3, x4, x5, x6] M = _
      unfold e_t235_28
      simp [e_tv, e_ev, e_sv, e_b1, e_b2, x_o1, x_o2, r_O4, r_O31, r_O32, q, q_n, ls, ls2, w1, w6, w7, st, st2, k]
    · exact hend x3 x4 x5 x6 M hw q
theorem r_findWashing {d t : Int} {M : EM} (hJ : r_J M) (hd : 0 ≤ d ∧ d ≤ 7) (hn : 1 ≤ M 197 d.toNat ∧ M 197 d.toNat ≤ 30) : ∃ M', E_C 235 [192, d, t] M = some (0, M') ∧ r_wv d M' ∧ a_fr r_wq M M' := by
  have w1 : e_w (120 * d) = 120 * d := a_w_id (by omega) (by omega)
  obtain ⟨a1, a2⟩ := r_qfld (k := 33) (v := e_w (t.tdiv 10000)) (by decide) (by decide) (a_w _) hJ
  obtain ⟨b1, b2⟩ := r_qfld (k := 34) (v := t.tmod 10000) (by decide) (by decide) (a_tmod (by decide) (by decide) (by decide)) a1
  obtain ⟨c1, c2⟩ := r_qfld (k := 35) (v := 120 * d) (by decide) (by decide) ⟨by omega, by omega⟩ b1
  have hf := a_fr_tr a2 (a_fr_tr b2 c2)
  obtain ⟨M', k, t1, t2⟩ := r_fw_c (t := t) hd 32 0 0 0 0 _ ⟨c1, c_up_s, by rw [r_wq_out hf (by omega)]; exact hn⟩ (by decide) (by decide)
  refine ⟨M', ?_, t1, a_fr_tr hf t2⟩
  rw [r_ent (show e_rok 235 [192, d, t] = true from decide_eq_true r_ref)]
  show e_tv E_C (E_V 235) e_t235_0 [192, d, t, 0, 0, 0, 0] M = _
  unfold e_t235_0
  simp [e_tv, e_ev, e_sv, e_b1, e_b2, x_o1, x_o2, r_P33, r_P34, r_P35, w1, k]
theorem r_wash {d t : Int} {M : EM} (hJ : r_J M) : r_Q 236 [192, d, t] M := by
  obtain ⟨n, kn, hn⟩ := r_wrongWash (d := d) (t := t) hJ.2.1
  by_cases q : n = 0
  · subst q
    obtain ⟨h1, h2⟩ := hn rfl
    obtain ⟨M1, k1, t1, t2⟩ := r_findWashing (t := t) hJ h1 h2
    have l1 : e_op 60 [207, 0] M1 = some (M1 207 0) := r_rdA (a := 207) (i := 0) (n := 1023) (by decide) (by decide) (by decide +kernel) (by decide) (by decide)
    refine ⟨M1 207 0, M1, ?_, t1.1.1, t2, t1.1.2.2.2.2⟩
    rw [r_ent (show e_rok 236 [192, d, t] = true from decide_eq_true r_ref)]
    show e_tv E_C (E_V 236) e_t236_0 [192, d, t, 0] M = _
    unfold e_t236_0
    simp [e_tv, e_ev, e_sv, e_b1, e_b2, x_o1, x_o2, r_O31, kn, k1, l1]
  · refine r_same (r := n) hJ ?_
    rw [r_ent (show e_rok 236 [192, d, t] = true from decide_eq_true r_ref)]
    show e_tv E_C (E_V 236) e_t236_0 [192, d, t, 0] M = _
    unfold e_t236_0
    simp [e_tv, e_ev, e_sv, e_b1, e_b2, x_o1, x_o2, kn, q]
theorem r_washed_loop {d t i x4 : Int} {M : EM} (hd : 0 ≤ d ∧ d ≤ 7) (hw : r_wv d M) : ∀ (m : Nat) (x5 x6 x7 x8 : Int), (30 - x7).toNat ≤ m → 0 ≤ x7 → 0 ≤ x6 → x6 ≤ x7 → ∃ r, E_V 237 52 [192, d, t, i, x4, x5, x6, x7, x8] M = some (r, M) := by
  have ls := (r_isD d M hd).2.2.1
  obtain ⟨v1, v2, v3⟩ := hw
  have hb : 0 ≤ M 192 35 ∧ M 192 35 ≤ 840 := by omega
  have hend : ∀ x5 x6 x7 x8, ¬ (x7 < M 197 d.toNat) → ∃ r, E_V 237 52 [192, d, t, i, x4, x5, x6, x7, x8] M = some (r, M) := by
    intro x5 x6 x7 x8 q
    refine ⟨-4, ?_⟩
    rw [E_V_eq]
    show e_tv E_C (E_V 237) e_t237_52 [192, d, t, i, x4, x5, x6, x7, x8] M = _
    unfold e_t237_52
    simp [e_tv, e_ev, e_sv, e_b1, e_b2, x_o1, x_o2, r_O4, ls, q]
  intro m
  induction m with
  | zero => intro x5 x6 x7 x8 hm h0 h1 h2; exact hend x5 x6 x7 x8 (by omega)
  | succ m ih =>
    intro x5 x6 x7 x8 hm h0 h1 h2
    rcases x_lt x7 (M 197 d.toNat) with ⟨q, q_n⟩ | ⟨q, q_n⟩
    · have w1 : e_w (x7 + 1) = x7 + 1 := a_w_id (by omega) (by omega)
      have w2 : e_w (x6 + 1) = x6 + 1 := a_w_id (by omega) (by omega)
      obtain ⟨s, ks, hs⟩ := r_pays (k := x7) (s := x6) hb ⟨h0, by omega⟩ ⟨h1, by omega⟩
      rcases hs with hs | hs
      · subst hs
        obtain ⟨r, k⟩ := ih (e_w (x5 + 0)) (x6 + 1) (x7 + 1) 0 (by omega) (by omega) (by omega) (by omega)
        rw [Int.add_zero] at k
        refine ⟨r, ?_⟩
        rw [E_V_eq]
        show e_tv E_C (E_V 237) e_t237_52 [192, d, t, i, x4, x5, x6, x7, x8] M = _
        unfold e_t237_52
        simp [e_tv, e_ev, e_sv, e_b1, e_b2, x_o1, x_o2, r_O4, ls, q, q_n, ks, w1, w2, k]
      · subst hs
        by_cases c : x5 = i
        · refine ⟨x7, ?_⟩
          rw [E_V_eq]
          show e_tv E_C (E_V 237) e_t237_52 [192, d, t, i, x4, x5, x6, x7, x8] M = _
          unfold e_t237_52
          simp [e_tv, e_ev, e_sv, e_b1, e_b2, x_o1, x_o2, r_O4, ls, q, q_n, ks, c]
        · obtain ⟨r, k⟩ := ih (e_w (x5 + 1)) 1 (x7 + 1) 1 (by omega) (by omega) (by omega) (by omega)
          refine ⟨r, ?_⟩
          rw [E_V_eq]
          show e_tv E_C (E_V 237) e_t237_52 [192, d, t, i, x4, x5, x6, x7, x8] M = _
          unfold e_t237_52
          simp [e_tv, e_ev, e_sv, e_b1, e_b2, x_o1, x_o2, r_O4, ls, q, q_n, ks, c, w1, k]
    · exact hend x5 x6 x7 x8 q
