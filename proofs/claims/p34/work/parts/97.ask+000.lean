/-! what holds between two calls, and what only asks -/
def r_Gi (M : EM) (i : Int) : Int := M 194 i.toNat
def r_J (M : EM) : Prop := a_M M ∧ r_I M ∧ r_W (r_G M) ∧ (M 192 9 ≠ 0 → r_W (r_Gi M)) ∧ M 192 20 = -1
/-- what asking writes -/
def r_wq : AW := [(192, 10, 35), (202, 0, 47), (203, 0, 47), (205, 0, 999), (206, 0, 99), (207, 0, 1023), (208, 0, 1023), (209, 0, 799), (210, 0, 402), (211, 0, 402), (212, 0, 11736)]
def r_Q (u : Nat) (as : List Int) (M : EM) : Prop := ∃ r M', E_C u as M = some (r, M') ∧ a_M M' ∧ a_fr r_wq M M' ∧ M' 192 20 = -1
theorem r_J_E {M : EM} (h : r_J M) : r_E M := ⟨h.1, h.2.2.1, by rw [h.2.2.2.2]; decide, by rw [h.2.2.2.2]; decide⟩
theorem r_wq_out {M M' : EM} (h : a_fr r_wq M M') {id k : Nat} (hi : id < 192 ∨ id = 192 ∧ (k < 10 ∨ 35 < k) ∨ 193 ≤ id ∧ id ≤ 201 ∨ id = 204 ∨ 212 < id) : M' id k = M id k := h id k (fun w hw => by
  have key : ∀ w ∈ r_wq, (w.1 = 192 ∧ w.2.1 = 10 ∧ w.2.2 = 35) ∨ w.1 = 202 ∨ w.1 = 203 ∨ (205 ≤ w.1 ∧ w.1 ≤ 212) := by decide
  have := key w hw
  omega)
theorem r_J_q {M M' : EM} (h : r_J M) (hM : a_M M') (hf : a_fr r_wq M M') (h20 : M' 192 20 = -1) : r_J M' := by
  obtain ⟨j1, j2, j3, j4, j5⟩ := h
  have e1 : r_G M' = r_G M := funext fun i => r_wq_out hf (by omega)
  have e2 : r_Gi M' = r_Gi M := funext fun i => r_wq_out hf (by omega)
  refine ⟨hM, fun j hj => ?_, by rw [e1]; exact j3, ?_, h20⟩
  · rw [r_wq_out hf (by omega)]; exact j2 j hj
  · rw [r_wq_out hf (by omega), e2]; exact j4
theorem r_evq {M M' : EM} (h : r_ev M M') : a_fr r_wq M M' := a_sub_fr (by decide) h.2
theorem r_in1 {x lo hi : Int} {M : EM} (h : lo ≤ x ∧ x ≤ hi) : E_C 168 [x, lo, hi] M = some (1, M) := by rw [r_isIn, if_pos h]
theorem r_in0 {x lo hi : Int} {M : EM} (h : ¬ (lo ≤ x ∧ x ≤ hi)) : E_C 168 [x, lo, hi] M = some (0, M) := by rw [r_isIn, if_neg h]
theorem r_W_N {M : EM} (h : r_W (r_G M)) : r_N M := ⟨h.1, h.2.1⟩
theorem r_ip1 {p : Int} {M : EM} (h : r_W (r_G M)) (hp : 0 ≤ p ∧ p < r_G M 1198) : E_C 169 [192, p] M = some (1, M) := by rw [r_isPart (r_W_N h)]; exact congrArg some (congrArg (·, M) (if_pos hp))
theorem r_ip0 {p : Int} {M : EM} (h : r_W (r_G M)) (hp : ¬ (0 ≤ p ∧ p < r_G M 1198)) : E_C 169 [192, p] M = some (0, M) := by rw [r_isPart (r_W_N h)]; exact congrArg some (congrArg (·, M) (if_neg hp))
theorem r_same {M : EM} {u : Nat} {as : List Int} {r : Int} (hJ : r_J M) (k : E_C u as M = some (r, M)) : r_Q u as M := ⟨r, M, k, hJ.1, a_fr_rf, hJ.2.2.2.2⟩
/-- a field of the reference's own -/
theorem r_fup {M : EM} {k : Nat} {v : Int} (hk : 10 ≤ k ∧ k ≤ 35) (hv : -2147483648 ≤ v ∧ v ≤ 2147483647) (hM : a_M M) : a_M (e_up M 192 k v) ∧ a_fr r_wq M (e_up M 192 k v) ∧ r_G (e_up M 192 k v) = r_G M := by
  refine ⟨r_up (by decide) (by decide +kernel) (by decide +kernel) hv hM, fun b j hw => c_up_n (fun hc => hw _ List.mem_cons_self ⟨hc.1.symm, ?_, ?_⟩), ?_⟩
  · have := hc.2; show 10 ≤ j; omega
  · have := hc.2; show j ≤ 35; omega
  · funext i
    exact c_up_n (fun hc => absurd hc.1 (by decide))
theorem r_E_f {M : EM} {k : Nat} {v : Int} (hE : r_E M) (hk : 10 ≤ k ∧ k ≤ 35) (hk2 : k ≠ 20) (hv : -2147483648 ≤ v ∧ v ≤ 2147483647) : r_E (e_up M 192 k v) := by
  obtain ⟨e1, e2, e3⟩ := hE
  obtain ⟨f1, f2, f3⟩ := r_fup (v := v) hk hv e1
  refine ⟨f1, by rw [f3]; exact e2, ?_⟩
  rw [c_up_n (fun hc => hk2 hc.2.symm)]
  exact e3
theorem r_up20 {M : EM} {k : Nat} {v : Int} (hk : k ≠ 20) : (e_up M 192 k v) 192 20 = M 192 20 := c_up_n (fun hc => hk hc.2.symm)
theorem r_pt_of {M : EM} (hW : r_W (r_G M)) {p : Int} (hp : 0 ≤ p ∧ p < r_G M 1198) : r_pt (r_G M) (r_G M 1198) p := hW.2.2.1 p hp.1 hp.2
theorem r_40 {M : EM} (hW : r_W (r_G M)) {p : Int} (hp : 0 ≤ p ∧ p < r_G M 1198) : 0 ≤ p ∧ p < 40 := ⟨hp.1, by have := hW.2.1; omega⟩
theorem r_pt_cell {g : Int → Int} {b p : Int} (h : r_pt g b p) (hk : g (28 * p) = 0) : r_cl g b p := by
  rcases h with h | h | h | h
  · exact h
  · have := h.2.2.1; omega
  · have := h.2.2.1; omega
  · have := h.2.2.1; omega
theorem r_pt_row {g : Int → Int} {b p : Int} (h : r_pt g b p) (hk : g (28 * p) = 1) : r_rw g b p := by
  rcases h with h | h | h | h
  · have := h.2.2.1; omega
  · exact h
  · have := h.2.2.1; omega
  · have := h.2.2.1; omega
theorem r_point {p i w : Int} {M : EM} (hJ : r_J M) : r_Q 195 [192, p, i, w] M := by
  have hE := r_J_E hJ
  have hW := hE.2.1
  by_cases q0 : 0 ≤ p ∧ p < r_G M 1198
  · have ip := r_ip1 hW q0
    have h40 := r_40 hW q0
    have kk : E_C 170 [192, p] M = some (r_G M (28 * p), M) := r_kind h40
    by_cases q1 : 0 ≤ w ∧ w ≤ 1
    · have i1 := r_in1 (M := M) q1
      by_cases q2 : r_G M (28 * p) = 0
      · have hc := r_pt_cell (r_pt_of hW q0) q2
        have km : E_C 171 [192, p] M = some (r_G M (28 * p + 2), M) := r_many h40
        have hc4 := hc.2.2.2.1
        have hc5 := hc.2.2.2.2.1
        have w1 : e_w (r_G M (28 * p + 2) - 1) = r_G M (28 * p + 2) - 1 := a_w_id (by omega) (by omega)
        by_cases q3 : 0 ≤ i ∧ i ≤ r_G M (28 * p + 2) - 1
        · have i2 := r_in1 (M := M) q3
          obtain ⟨s, ks, hs⟩ := r_share hE h40 hc.2.2.2.2.2
          obtain ⟨a, ka, ha⟩ := r_currentAt (p := p) (i := i) (sh := s) (M := M) h40 ⟨q3.1, by omega⟩
          obtain ⟨t, kt, ht⟩ := r_pushAt (p := p) (i := i) (M := M) h40 ⟨q3.1, by omega⟩
          by_cases q4 : w = 0
          · refine r_same (r := t) hJ ?_
            subst q4
            rw [r_ent (show e_rok 195 [192, p, i, 0] = true from decide_eq_true r_ref)]
            show e_tv E_C (E_V 195) e_t195_0 [192, p, i, 0] M = _
            unfold e_t195_0
            simp [e_tv, e_ev, e_sv, e_b1, e_b2, x_o1, x_o2, ip, i1, kk, q2, km, w1, i2, kt]
          · refine r_same (r := a) hJ ?_
            rw [r_ent (show e_rok 195 [192, p, i, w] = true from decide_eq_true r_ref)]
            show e_tv E_C (E_V 195) e_t195_0 [192, p, i, w] M = _
            unfold e_t195_0
            simp [e_tv, e_ev, e_sv, e_b1, e_b2, x_o1, x_o2, ip, i1, kk, q2, km, w1, i2, ks, ka, q4]
        · have i2 := r_in0 (M := M) q3
          refine r_same (r := -1) hJ ?_
          rw [r_ent (show e_rok 195 [192, p, i, w] = true from decide_eq_true r_ref)]
          show e_tv E_C (E_V 195) e_t195_0 [192, p, i, w] M = _
          unfold e_t195_0
          simp [e_tv, e_ev, e_sv, e_b1, e_b2, x_o1, x_o2, ip, i1, kk, q2, km, w1, i2]
      · refine r_same (r := -3) hJ ?_
        rw [r_ent (show e_rok 195 [192, p, i, w] = true from decide_eq_true r_ref)]
        show e_tv E_C (E_V 195) e_t195_0 [192, p, i, w] M = _
        unfold e_t195_0
        simp [e_tv, e_ev, e_sv, e_b1, e_b2, x_o1, x_o2, ip, i1, kk, q2]
    · have i1 := r_in0 (M := M) q1
      refine r_same (r := -1) hJ ?_
      rw [r_ent (show e_rok 195 [192, p, i, w] = true from decide_eq_true r_ref)]
      show e_tv E_C (E_V 195) e_t195_0 [192, p, i, w] M = _
      unfold e_t195_0
      simp [e_tv, e_ev, e_sv, e_b1, e_b2, x_o1, x_o2, ip, i1]
  · have ip := r_ip0 hW q0
    refine r_same (r := -1) hJ ?_
    rw [r_ent (show e_rok 195 [192, p, i, w] = true from decide_eq_true r_ref)]
    show e_tv E_C (E_V 195) e_t195_0 [192, p, i, w] M = _
    unfold e_t195_0
    simp [e_tv, e_ev, e_sv, e_b1, e_b2, x_o1, x_o2, ip]
