/-! what a PART gives at each PUSH: rows 205 and 206 alone are written -/
def r_wg : AW := [(205, 0, 999), (206, 0, 99)]
def r_ev (M M' : EM) : Prop := a_M M' ∧ a_fr r_wg M M'
theorem r_ev_tr {M M1 M2 : EM} (h1 : r_ev M M1) (h2 : r_ev M1 M2) : r_ev M M2 := ⟨h2.1, a_fr_tr h1.2 h2.2⟩
theorem r_ev_same {M M' : EM} (h : r_ev M M') {id k : Nat} (h5 : id ≠ 205) (h6 : id ≠ 206) : M' id k = M id k := h.2 id k (fun w hw hc => by
  rcases List.mem_cons.mp hw with rfl | hw
  · exact h5 hc.1.symm
  · cases List.mem_singleton.mp hw
    exact h6 hc.1.symm)
theorem r_ev_G {M M' : EM} (h : r_ev M M') : r_G M' = r_G M := by
  funext i
  exact r_ev_same h (by decide) (by decide)
theorem r_ev_E {M M' : EM} (hE : r_E M) (h : r_ev M M') : r_E M' := by
  obtain ⟨e1, e2, e3, e4⟩ := hE
  refine ⟨h.1, by rw [r_ev_G h]; exact e2, ?_, ?_⟩ <;> rw [r_ev_same h (by decide) (by decide)] <;> assumption
theorem r_ev5 {M : EM} {k : Nat} {v : Int} (hM : a_M M) (hk : k < 1000) (hv : -2147483648 ≤ v ∧ v ≤ 2147483647) : r_ev M (e_up M 205 k v) := by
  refine ⟨r_up (by decide) (by decide +kernel) (by decide +kernel) hv hM, fun b j hw => c_up_n (fun hc => hw _ List.mem_cons_self ⟨hc.1.symm, Nat.zero_le _, ?_⟩)⟩
  have := hc.2
  show j ≤ 999
  omega
theorem r_ev6 {M : EM} {k : Nat} {v : Int} (hM : a_M M) (hk : k < 100) (hv : -2147483648 ≤ v ∧ v ≤ 2147483647) : r_ev M (e_up M 206 k v) := by
  refine ⟨r_up (by decide) (by decide +kernel) (by decide +kernel) hv hM, fun b j hw => c_up_n (fun hc => hw _ (List.mem_cons_of_mem _ List.mem_cons_self) ⟨hc.1.symm, Nat.zero_le _, ?_⟩)⟩
  have := hc.2
  show j ≤ 99
  omega
theorem r_rd5 {i : Int} {M : EM} (h0 : 0 ≤ i) (hi : i < 1000) : e_op 60 [205, i] M = some (M 205 i.toNat) := r_ld (n := 1000) (by decide) (by decide +kernel) (by decide +kernel) h0 hi
theorem r_rd6 {i : Int} {M : EM} (h0 : 0 ≤ i) (hi : i < 100) : e_op 60 [206, i] M = some (M 206 i.toNat) := r_ld (n := 100) (by decide) (by decide +kernel) (by decide +kernel) h0 hi
theorem r_st5 {i v : Int} {M : EM} (h0 : 0 ≤ i) (hi : i < 1000) : e_st 100 [205, i, v] M = some (e_up M 205 i.toNat v) := r_st (n := 1000) (by decide) (by decide +kernel) (by decide +kernel) h0 hi
theorem r_st6 {i v : Int} {M : EM} (h0 : 0 ≤ i) (hi : i < 100) : e_st 100 [206, i, v] M = some (e_up M 206 i.toNat v) := r_st (n := 100) (by decide) (by decide +kernel) (by decide +kernel) h0 hi
theorem r_by_in {x2 : Int} (h2 : 0 ≤ x2 ∧ x2 < 1000) (H : ∀ x1 M, a_M M → 0 ≤ x1 → x1 ≤ 99 → ∃ M', E_V 205 5 [192, x1, x2 + 1] M = some (0, M') ∧ r_ev M M') : ∀ (m : Nat) (x1 : Int) (M : EM), a_M M → x1.toNat ≤ m → 0 ≤ x1 → x1 ≤ 99 → ∃ M', E_V 205 12 [192, x1, x2] M = some (0, M') ∧ r_ev M M' := by
  have w2 : e_w (x2 + 1) = x2 + 1 := a_w_id (by omega) (by omega)
  have hend : ∀ x1 M, a_M M → 0 ≤ x1 → x1 ≤ 99 → (∀ v, e_op 60 [206, x1] M = some v → ¬ (0 < x1 ∧ v < x2)) → ∃ M', E_V 205 12 [192, x1, x2] M = some (0, M') ∧ r_ev M M' := by
    intro x1 M hM h0 h1 hq
    have hv := hq _ (r_rd6 h0 (by omega))
    have g1 := r_rd6 (M := M) h0 (by omega)
    have g2 := r_rd5 (M := M) h2.1 h2.2
    have e1 := r_ev5 (M := M) (k := x2.toNat) (v := e_w (M 205 x2.toNat + x1)) hM (by omega) (a_w _)
    obtain ⟨M', k, hM'⟩ := H x1 _ e1.1 h0 h1
    refine ⟨M', ?_, r_ev_tr e1 hM'⟩
    rcases x_lt 0 x1 with ⟨q, q_n⟩ | ⟨q, q_n⟩
    · have q1 : ¬ (M 206 x1.toNat < x2) := fun e => hv ⟨q, e⟩
      rw [E_V_eq]
      show e_tv E_C (E_V 205) e_t205_12 [192, x1, x2] M = _
      unfold e_t205_12
      simp [e_tv, e_ev, e_sv, e_b1, e_b2, x_o1, x_o2, r_O25, r_O26, q, q_n, q1, g1, g2, r_st5 h2.1 h2.2, w2, k]
    · rw [E_V_eq]
      show e_tv E_C (E_V 205) e_t205_12 [192, x1, x2] M = _
      unfold e_t205_12
      simp [e_tv, e_ev, e_sv, e_b1, e_b2, x_o1, x_o2, r_O25, r_O26, q, q_n, g1, g2, r_st5 h2.1 h2.2, w2, k]
  intro m
  induction m with
  | zero => intro x1 M hM hm h0 h1; exact hend x1 M hM h0 h1 (fun v _ => by omega)
  | succ m ih =>
    intro x1 M hM hm h0 h1
    have g1 := r_rd6 (M := M) h0 (by omega)
    by_cases q : 0 < x1 ∧ M 206 x1.toNat < x2
    · obtain ⟨q, q1⟩ := q
      have w1 : e_w (x1 + -1) = x1 - 1 := a_w_id (by omega) (by omega)
      obtain ⟨M', k, hM'⟩ := ih (x1 - 1) M hM (by omega) (by omega) (by omega)
      refine ⟨M', ?_, hM'⟩
      rw [E_V_eq]
      show e_tv E_C (E_V 205) e_t205_12 [192, x1, x2] M = _
      unfold e_t205_12
      simp [e_tv, e_ev, e_sv, e_b1, e_b2, x_o1, x_o2, r_O25, r_O26, q, q1, g1, w1, k]
    · exact hend x1 M hM h0 h1 (fun v hv => by rw [g1] at hv; cases hv; exact q)
theorem r_by_out : ∀ (m : Nat) (x1 x2 : Int) (M : EM), a_M M → (1000 - x2).toNat ≤ m → 0 ≤ x2 → 0 ≤ x1 → x1 ≤ 99 → ∃ M', E_V 205 5 [192, x1, x2] M = some (0, M') ∧ r_ev M M' := by
  have hend : ∀ x1 x2 M, a_M M → ¬ (x2 < 1000) → ∃ M', E_V 205 5 [192, x1, x2] M = some (0, M') ∧ r_ev M M' := by
    intro x1 x2 M hM q
    refine ⟨M, ?_, hM, a_fr_rf⟩
    rw [E_V_eq]
    show e_tv E_C (E_V 205) e_t205_5 [192, x1, x2] M = _
    unfold e_t205_5
    simp [e_tv, e_ev, e_sv, e_b1, e_b2, x_o1, x_o2, q]
  intro m
  induction m with
  | zero => intro x1 x2 M hM hm h2 h0 h1; exact hend x1 x2 M hM (by omega)
  | succ m ih =>
    intro x1 x2 M hM hm h2 h0 h1
    rcases x_lt x2 1000 with ⟨q, q_n⟩ | ⟨q, q_n⟩
    · obtain ⟨M', k, hM'⟩ := r_by_in ⟨h2, q⟩ (fun y1 M1 hM1 y0 y9 => ih y1 (x2 + 1) M1 hM1 (by omega) (by omega) y0 y9) 99 x1 M hM (by omega) h0 h1
      refine ⟨M', ?_, hM'⟩
      rw [E_V_eq]
      show e_tv E_C (E_V 205) e_t205_5 [192, x1, x2] M = _
      unfold e_t205_5
      simp [e_tv, e_ev, e_sv, e_b1, e_b2, x_o1, x_o2, q, q_n, k]
    · exact hend x1 x2 M hM q
theorem r_givesBy {M : EM} (hM : a_M M) : ∃ M', E_C 205 [192] M = some (0, M') ∧ r_ev M M' := by
  obtain ⟨M', k, hM'⟩ := r_by_out 1000 99 0 M hM (by decide) (by decide) (by decide) (by decide)
  refine ⟨M', ?_, hM'⟩
  rw [r_ent (show e_rok 205 [192] = true from decide_eq_true r_ref)]
  show e_tv E_C (E_V 205) e_t205_0 [192, 0, 0] M = _
  unfold e_t205_0
  simp [e_tv, e_ev, e_sv, e_b1, e_b2, x_o1, x_o2, k]
theorem r_gm_fill_204 {b p : Int} (hb : b ≤ 40) : ∀ (m : Nat) (x2 : Int) (M : EM), r_E M → (r_cl (r_G M) b p ∨ r_rw (r_G M) b p) → (100 - x2).toNat ≤ m → 0 ≤ x2 → ∃ M', E_V 204 48 [192, p, x2] M = some (0, M') ∧ r_ev M M' := by
  have hend : ∀ x2 M, r_E M → ¬ (x2 < 100) → ∃ M', E_V 204 48 [192, p, x2] M = some (0, M') ∧ r_ev M M' := by
    intro x2 M hE q
    obtain ⟨M', k, hM'⟩ := r_givesBy hE.1
    refine ⟨M', ?_, hM'⟩
    rw [E_V_eq]
    show e_tv E_C (E_V 204) e_t204_48 [192, p, x2] M = _
    unfold e_t204_48
    simp [e_tv, e_ev, e_sv, e_b1, e_b2, x_o1, x_o2, q, k]
  intro m
  induction m with
  | zero => intro x2 M hE hp hm h0; exact hend x2 M hE (by omega)
  | succ m ih =>
    intro x2 M hE hp hm h0
    rcases x_lt x2 100 with ⟨q, q_n⟩ | ⟨q, q_n⟩
    · obtain ⟨l, kl, hl⟩ := r_lowPush (c := x2) hE hb hp
      have w4 : e_w (x2 + 1) = x2 + 1 := a_w_id (by omega) (by omega)
      have e1 := r_ev6 (M := M) (k := x2.toNat) (v := l) hE.1 (by omega) hl
      obtain ⟨M', k, hM'⟩ := ih (x2 + 1) _ (r_ev_E hE e1) (by rw [r_ev_G e1]; exact hp) (by omega) (by omega)
      refine ⟨M', ?_, r_ev_tr e1 hM'⟩
      rw [E_V_eq]
      show e_tv E_C (E_V 204) e_t204_48 [192, p, x2] M = _
      unfold e_t204_48
      simp [e_tv, e_ev, e_sv, e_b1, e_b2, x_o1, x_o2, r_O26, q, q_n, kl, r_st6 h0 q, q_n, w4, k]
    · exact hend x2 M hE q
