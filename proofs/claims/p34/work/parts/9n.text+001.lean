/-- the new PART's cells, 0 so far -/
def r_zr (p x2 : Int) (M0 N : EM) : Prop := a_M N ∧ (∀ id k, id ≠ 193 → N id k = M0 id k) ∧ (∀ i, 0 ≤ i → (i < 28 * p ∨ 28 * p + 28 ≤ i) → r_G N i = r_G M0 i) ∧ (∀ j, 0 ≤ j → j < x2 → r_G N (28 * p + j) = 0)
theorem r_zr_mk {p kd : Int} {M0 N : EM} (hp : 0 ≤ p) (hn : r_N99 M0) (h : r_zr p 28 M0 N) (hkd : 0 ≤ kd ∧ kd ≤ 3) : r_mk p kd (r_G M0) M0 (e_up N 193 (28 * p).toNat kd) := by
  obtain ⟨h1, h2, h3, h4⟩ := h
  have far : ∀ i, 0 ≤ i → i ≠ 28 * p → r_G (e_up N 193 (28 * p).toNat kd) i = r_G N i := fun i h0 h1 => c_up_n (fun hc => by have := hc.2; omega)
  refine ⟨r_upw ⟨by omega, by omega⟩ h1, fun id k k1 k2 => (r_n193 k1).trans (h2 id k k1), fun i i0 i1 i2 => (far i i0 (by omega)).trans (h3 i i0 (Or.inl i1)), fun i i0 => (far i (by omega) (by omega)).trans (h3 i (by omega) (Or.inr i0)), r_G_s, fun _ => (far _ (by omega) (by omega)).trans (h4 20 (by decide) (by decide)), fun _ => (far _ (by omega) (by omega)).trans (h4 4 (by decide) (by decide)), ?_⟩
  unfold r_N99
  rw [r_n193 (by decide), h2 192 18 (by decide)]
  exact hn
theorem r_mk_zero {p x4 : Int} {M0 : EM} (hp : 0 ≤ p ∧ p < 40) (hW : r_W (r_G M0)) (hpc : r_G M0 1198 = p) (hT : r_ty M0) (hn : r_N99 M0) (hq : 0 ≤ M0 192 15 ∧ M0 192 15 ≤ 120) : ∀ (m : Nat) (x2 : Int) (N : EM), r_zr p x2 M0 N → (28 - x2).toNat ≤ m → 0 ≤ x2 → x2 ≤ 28 → r_MK M0 (E_V 188 19 [192, p, x2, 0, x4] N) := by
  have hend : ∀ x2 N, r_zr p x2 M0 N → x2 = 28 → r_MK M0 (E_V 188 19 [192, p, x2, 0, x4] N) := by
    intro x2 N hz e
    subst e
    obtain ⟨t1, t2, t3, t4, t5, t6⟩ := hT
    have z2 := hz.2.1
    refine r_mk_kind hp hW hpc ⟨t4, t5, t6⟩ ⟨hz.1, ?_, ?_, ?_, ?_, ?_⟩ (z2 _ _ (by decide)) hq (fun kd hkd => r_zr_mk hp.1 hn hz hkd)
    · rw [z2 _ _ (by decide)]; exact t2
    · rw [z2 _ _ (by decide)]; exact t3
    · rw [z2 _ _ (by decide)]; exact t4
    · rw [z2 _ _ (by decide)]; exact t5
    · rw [z2 _ _ (by decide)]; exact t6
  intro m
  induction m with
  | zero => intro x2 N hz hm h0 h1; exact hend x2 N hz (by omega)
  | succ m ih =>
    intro x2 N hz hm h0 h1
    rcases x_lt x2 28 with ⟨q, q_n⟩ | ⟨q, q_n⟩
    · have w1 : e_w (28 * p) = 28 * p := a_w_id (by omega) (by omega)
      have w2 : e_w (28 * p + x2) = 28 * p + x2 := a_w_id (by omega) (by omega)
      have w3 : e_w (x2 + 1) = x2 + 1 := a_w_id (by omega) (by omega)
      have st := r_stw (i := 28 * p + x2) (v := 0) (M := N) (by omega) (by omega)
      obtain ⟨z1, z2, z3, z4⟩ := hz
      have far : ∀ i, 0 ≤ i → i ≠ 28 * p + x2 → r_G (e_up N 193 (28 * p + x2).toNat 0) i = r_G N i := fun i h0 h1 => c_up_n (fun hc => by have := hc.2; omega)
      obtain ⟨r, M', k, t⟩ := ih (x2 + 1) (e_up N 193 (28 * p + x2).toNat 0) ⟨r_upw (by decide) z1, fun id k h => (r_n193 h).trans (z2 id k h), fun i i0 i1 => (far i i0 (by omega)).trans (z3 i i0 i1), fun j j0 j1 => by
        by_cases e : j = x2
        · subst e; exact r_G_s
        · exact (far _ (by omega) (by omega)).trans (z4 j j0 (by omega))⟩ (by omega) (by omega) (by omega)
      refine ⟨r, M', ?_, t⟩
      rw [E_V_eq]
      show e_tv E_C (E_V 188) e_t188_19 [192, p, x2, 0, x4] N = _
      unfold e_t188_19
      simp [e_tv, e_ev, e_sv, e_b1, e_b2, x_o1, x_o2, r_O0, q, q_n, w1, w2, w3, st, k]
    · exact hend x2 N hz (by omega)
theorem r_makes {M0 : EM} (hW : r_W (r_G M0)) (hT : r_ty M0) (hn : r_N99 M0) (hq : 0 ≤ M0 192 15 ∧ M0 192 15 ≤ 120) : (r_G M0 1198 = 40 ∧ E_C 188 [192] M0 = some (0, M0)) ∨ r_MK M0 (E_C 188 [192] M0) := by
  have l1 : e_op 60 [193, 1198] M0 = some (r_G M0 1198) := r_rd (by decide) (by decide)
  by_cases c : r_G M0 1198 = 40
  · refine Or.inl ⟨c, ?_⟩
    rw [r_ent (show e_rok 188 [192] = true from decide_eq_true r_ref)]
    show e_tv E_C (E_V 188) e_t188_0 [192, 0, 0, 0, 0] M0 = _
    unfold e_t188_0
    simp [e_tv, e_ev, e_sv, e_b1, e_b2, x_o1, x_o2, r_O0, l1, c]
  · have hp : 0 ≤ r_G M0 1198 ∧ r_G M0 1198 < 40 := ⟨hW.1, by have := hW.2.1; omega⟩
    obtain ⟨r, M', k, t⟩ := r_mk_zero (x4 := 0) hp hW rfl hT hn hq 28 0 M0 ⟨hT.1, fun _ _ _ => rfl, fun _ _ _ => rfl, fun j j0 j1 => by omega⟩ (by decide) (by decide) (by decide)
    refine Or.inr ⟨r, M', ?_, t⟩
    rw [r_ent (show e_rok 188 [192] = true from decide_eq_true r_ref)]
    show e_tv E_C (E_V 188) e_t188_0 [192, 0, 0, 0, 0] M0 = _
    unfold e_t188_0
    simp [e_tv, e_ev, e_sv, e_b1, e_b2, x_o1, x_o2, r_O0, l1, c, k]

