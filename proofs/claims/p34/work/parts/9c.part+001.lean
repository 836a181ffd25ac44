theorem r_wrongParting {d : Int} {M : EM} (hJ : r_J M) : ∃ r, E_C 238 [192, d] M = some (r, M) ∧ (r = 0 → (0 ≤ d ∧ d ≤ 7) ∧ 2 ≤ M 197 d.toNat ∧ M 197 d.toNat ≤ 8 ∧ r_cells M d (M 197 d.toNat)) := by
  obtain ⟨n, kn, -, hn⟩ := r_wrongRow d 0 M
  by_cases q : n = 0
  · subst q
    have hd := hn rfl
    have ls := (r_isD d M hd).2.2.1
    by_cases q1 : 2 ≤ M 197 d.toNat ∧ M 197 d.toNat ≤ 8
    · have i1 := r_in1 (M := M) q1
      obtain ⟨r, k, -, hr⟩ := r_wp_out hJ hd 120 0 0 0 (by decide) (by decide) (fun k k0 k1 => by omega) (by omega)
      refine ⟨r, ?_, fun h => ⟨hd, q1.1, q1.2, hr h⟩⟩
      rw [r_ent (show e_rok 238 [192, d] = true from decide_eq_true r_ref)]
      show e_tv E_C (E_V 238) e_t238_0 [192, d, 0, 0, 0, 0] M = _
      unfold e_t238_0
      simp [e_tv, e_ev, e_sv, e_b1, e_b2, x_o1, x_o2, r_O4, kn, ls, i1, k]
    · have i1 := r_in0 (M := M) q1
      refine ⟨-13, ?_, fun h => absurd h (by decide)⟩
      rw [r_ent (show e_rok 238 [192, d] = true from decide_eq_true r_ref)]
      show e_tv E_C (E_V 238) e_t238_0 [192, d, 0, 0, 0, 0] M = _
      unfold e_t238_0
      simp [e_tv, e_ev, e_sv, e_b1, e_b2, x_o1, x_o2, r_O4, kn, ls, i1]
  · refine ⟨n, ?_, fun h => absurd h q⟩
    rw [r_ent (show e_rok 238 [192, d] = true from decide_eq_true r_ref)]
    show e_tv E_C (E_V 238) e_t238_0 [192, d, 0, 0, 0, 0] M = _
    unfold e_t238_0
    simp [e_tv, e_ev, e_sv, e_b1, e_b2, x_o1, x_o2, kn, q]
theorem r_e5 {M : EM} {k : Nat} {v : Int} (hk : k < 1000) (hv : -2147483648 ≤ v ∧ v ≤ 2147483647) (hJ : r_J M) : r_J (e_up M 205 k v) ∧ a_fr r_wq M (e_up M 205 k v) := r_qarr (n := 999) (by decide) (by omega) hv hJ
theorem r_e6 {M : EM} {k : Nat} {v : Int} (hk : k < 100) (hv : -2147483648 ≤ v ∧ v ≤ 2147483647) (hJ : r_J M) : r_J (e_up M 206 k v) ∧ a_fr r_wq M (e_up M 206 k v) := r_qarr (n := 99) (by decide) (by omega) hv hJ
theorem r_ev_J {M M' : EM} (hJ : r_J M) (h : r_ev M M') : r_J M' := r_J_q hJ h.1 (r_evq h) (by rw [r_ev_same h (by decide) (by decide)]; exact hJ.2.2.2.2)
theorem r_gset_in {S n x3 : Int} (hn : n ≤ 8) (h3 : 0 ≤ x3 ∧ x3 < 100) (H : ∀ M, r_J M → ∀ x4, ∃ M', E_V 239 2 [192, S, n, x3 + 1, x4] M = some (0, M') ∧ r_J M' ∧ a_fr r_wq M M') : ∀ (m : Nat) (x4 : Int) (M : EM), r_J M → (n - x4).toNat ≤ m → 0 ≤ x4 → ∃ M', E_V 239 18 [192, S, n, x3, x4] M = some (0, M') ∧ r_J M' ∧ a_fr r_wq M M' := by
  have w0 : e_w (x3 + 1) = x3 + 1 := a_w_id (by omega) (by omega)
  have hend : ∀ x4 M, r_J M → ¬ (x4 < n) → ∃ M', E_V 239 18 [192, S, n, x3, x4] M = some (0, M') ∧ r_J M' ∧ a_fr r_wq M M' := by
    intro x4 M hJ q
    obtain ⟨M', k, t⟩ := H M hJ x4
    refine ⟨M', ?_, t⟩
    rw [E_V_eq]
    show e_tv E_C (E_V 239) e_t239_18 [192, S, n, x3, x4] M = _
    unfold e_t239_18
    simp [e_tv, e_ev, e_sv, e_b1, e_b2, x_o1, x_o2, q, w0, k]
  intro m
  induction m with
  | zero => intro x4 M hJ hm h0; exact hend x4 M hJ (by omega)
  | succ m ih =>
    intro x4 M hJ hm h0
    rcases x_lt x4 n with ⟨q, q_n⟩ | ⟨q, q_n⟩
    · have w1 : e_w (100 * x4) = 100 * x4 := a_w_id (by omega) (by omega)
      have w2 : e_w (100 * x4 + x3) = 100 * x4 + x3 := a_w_id (by omega) (by omega)
      have w4 : e_w (x4 + 1) = x4 + 1 := a_w_id (by omega) (by omega)
      have g1 := r_rd6 (M := M) h3.1 h3.2
      have g2 : e_op 60 [209, 100 * x4 + x3] M = some (M 209 (100 * x4 + x3).toNat) := r_rdA (a := 209) (n := 799) (by decide) (by decide) (by decide +kernel) (by omega) (by omega)
      by_cases c : e_bit (fun x y => x &&& y) (e_bit (fun x y => x >>> (y &&& 31)) S x4) 1 = 1
      · obtain ⟨u1, u2⟩ := r_e6 (M := M) (k := x3.toNat) (v := e_w (M 206 x3.toNat + M 209 (100 * x4 + x3).toNat)) (by omega) (a_w _) hJ
        obtain ⟨M', k, t1, t2⟩ := ih (x4 + 1) _ u1 (by omega) (by omega)
        refine ⟨M', ?_, t1, a_fr_tr u2 t2⟩
        rw [E_V_eq]
        show e_tv E_C (E_V 239) e_t239_18 [192, S, n, x3, x4] M = _
        unfold e_t239_18
        simp [e_tv, e_ev, e_sv, e_b1, e_b2, x_o1, x_o2, r_O26, r_O36, q, q_n, w1, w2, w4, g1, g2, c, r_st6 h3.1 h3.2, k]
      · obtain ⟨u1, u2⟩ := r_e6 (M := M) (k := x3.toNat) (v := e_w (M 206 x3.toNat + 0)) (by omega) (a_w _) hJ
        obtain ⟨M', k, t1, t2⟩ := ih (x4 + 1) _ u1 (by omega) (by omega)
        refine ⟨M', ?_, t1, a_fr_tr u2 t2⟩
        rw [Int.add_zero] at k
        rw [E_V_eq]
        show e_tv E_C (E_V 239) e_t239_18 [192, S, n, x3, x4] M = _
        unfold e_t239_18
        simp [e_tv, e_ev, e_sv, e_b1, e_b2, x_o1, x_o2, r_O26, r_O36, q, q_n, w4, g1, c, r_st6 h3.1 h3.2, k]
    · exact hend x4 M hJ q
theorem r_gset_out {S n : Int} (hn : n ≤ 8) : ∀ (m : Nat) (x3 x4 : Int) (M : EM), r_J M → (100 - x3).toNat ≤ m → 0 ≤ x3 → ∃ M', E_V 239 2 [192, S, n, x3, x4] M = some (0, M') ∧ r_J M' ∧ a_fr r_wq M M' := by
  have hend : ∀ x3 x4 M, r_J M → ¬ (x3 < 100) → ∃ M', E_V 239 2 [192, S, n, x3, x4] M = some (0, M') ∧ r_J M' ∧ a_fr r_wq M M' := by
    intro x3 x4 M hJ q
    obtain ⟨M', k, e⟩ := r_givesBy hJ.1
    refine ⟨M', ?_, r_ev_J hJ e, r_evq e⟩
    rw [E_V_eq]
    show e_tv E_C (E_V 239) e_t239_2 [192, S, n, x3, x4] M = _
    unfold e_t239_2
    simp [e_tv, e_ev, e_sv, e_b1, e_b2, x_o1, x_o2, q, k]
  intro m
  induction m with
  | zero => intro x3 x4 M hJ hm h0; exact hend x3 x4 M hJ (by omega)
  | succ m ih =>
    intro x3 x4 M hJ hm h0
    rcases x_lt x3 100 with ⟨q, q_n⟩ | ⟨q, q_n⟩
    · obtain ⟨u1, u2⟩ := r_e6 (M := M) (k := x3.toNat) (v := 0) (by omega) (by decide) hJ
      obtain ⟨M', k, t1, t2⟩ := r_gset_in (S := S) hn ⟨h0, q⟩ (fun M1 j1 y4 => ih (x3 + 1) y4 M1 j1 (by omega) (by omega)) _ 0 _ u1 (Nat.le_refl _) (by decide)
      refine ⟨M', ?_, t1, a_fr_tr u2 t2⟩
      rw [E_V_eq]
      show e_tv E_C (E_V 239) e_t239_2 [192, S, n, x3, x4] M = _
      unfold e_t239_2
      simp [e_tv, e_ev, e_sv, e_b1, e_b2, x_o1, x_o2, r_O26, q, q_n, r_st6 h0 q, q_n, k]
    · exact hend x3 x4 M hJ q
theorem r_givesSet {S n : Int} {M : EM} (hn : n ≤ 8) (hJ : r_J M) : ∃ M', E_C 239 [192, S, n] M = some (0, M') ∧ r_J M' ∧ a_fr r_wq M M' := by
  obtain ⟨M', k, t⟩ := r_gset_out (S := S) hn 100 0 0 M hJ (by decide) (by decide)
  refine ⟨M', ?_, t⟩
  rw [r_ent (show e_rok 239 [192, S, n] = true from decide_eq_true r_ref)]
  show e_tv E_C (E_V 239) e_t239_0 [192, S, n, 0, 0] M = _
  unfold e_t239_0
  simp [e_tv, e_ev, e_sv, e_b1, e_b2, x_o1, x_o2, k]
