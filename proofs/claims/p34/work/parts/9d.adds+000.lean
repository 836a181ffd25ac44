/-! CELLS and DIODES of a PART, gathered by the reference -/
theorem r_202 {M : EM} {k : Nat} {v : Int} : (e_up M 202 k v) 192 13 = M 192 13 := c_up_n (fun hc => absurd hc.1 (by decide))
theorem r_203 {M : EM} {k : Nat} {v : Int} : (e_up M 203 k v) 192 14 = M 192 14 := c_up_n (fun hc => absurd hc.1 (by decide))
theorem r_st202 {i v : Int} {M : EM} (h0 : 0 ≤ i) (hi : i ≤ 47) : e_st 100 [202, i, v] M = some (e_up M 202 i.toNat v) := r_stA (a := 202) (n := 47) (by decide) (by decide) (by decide +kernel) h0 hi
theorem r_st203 {i v : Int} {M : EM} (h0 : 0 ≤ i) (hi : i ≤ 47) : e_st 100 [203, i, v] M = some (e_up M 203 i.toNat v) := r_stA (a := 203) (n := 47) (by decide) (by decide) (by decide +kernel) h0 hi
theorem r_ld202 {i : Int} {M : EM} (h0 : 0 ≤ i) (hi : i ≤ 47) : e_op 60 [202, i] M = some (M 202 i.toNat) := r_rdA (a := 202) (n := 47) (by decide) (by decide) (by decide +kernel) h0 hi
theorem r_ld203 {i : Int} {M : EM} (h0 : 0 ≤ i) (hi : i ≤ 47) : e_op 60 [203, i] M = some (M 203 i.toNat) := r_rdA (a := 203) (n := 47) (by decide) (by decide) (by decide +kernel) h0 hi
/-- one CELL more -/
def r_c1 (M : EM) (v : Int) : EM := e_up (e_up M 202 (M 192 13).toNat v) 192 13 (M 192 13 + 1)
def r_d1 (M : EM) (v : Int) : EM := e_up (e_up M 203 (M 192 14).toNat v) 192 14 (M 192 14 + 1)
theorem r_c1_ok {M : EM} {v : Int} (hJ : r_J M) (hc : 0 ≤ M 192 13 ∧ M 192 13 ≤ 47) (hv : -2147483648 ≤ v ∧ v ≤ 2147483647) : r_J (r_c1 M v) ∧ a_fr r_wq M (r_c1 M v) ∧ (r_c1 M v) 192 13 = M 192 13 + 1 ∧ (r_c1 M v) 192 14 = M 192 14 := by
  obtain ⟨u1, u2⟩ := r_qarr (a := 202) (n := 47) (k := (M 192 13).toNat) (by decide) (by omega) hv hJ
  obtain ⟨v1, v2⟩ := r_qfld (k := 13) (v := M 192 13 + 1) (by decide) (by decide) ⟨by omega, by omega⟩ u1
  exact ⟨v1, a_fr_tr u2 v2, c_up_s, (c_up_n (fun hc => absurd hc.2 (by decide))).trans (c_up_n (fun hc => absurd hc.1 (by decide)))⟩
theorem r_d1_ok {M : EM} {v : Int} (hJ : r_J M) (hc : 0 ≤ M 192 14 ∧ M 192 14 ≤ 47) (hv : -2147483648 ≤ v ∧ v ≤ 2147483647) : r_J (r_d1 M v) ∧ a_fr r_wq M (r_d1 M v) ∧ (r_d1 M v) 192 14 = M 192 14 + 1 ∧ (r_d1 M v) 192 13 = M 192 13 := by
  obtain ⟨u1, u2⟩ := r_qarr (a := 203) (n := 47) (k := (M 192 14).toNat) (by decide) (by omega) hv hJ
  obtain ⟨v1, v2⟩ := r_qfld (k := 14) (v := M 192 14 + 1) (by decide) (by decide) ⟨by omega, by omega⟩ u1
  exact ⟨v1, a_fr_tr u2 v2, c_up_s, (c_up_n (fun hc => absurd hc.2 (by decide))).trans (c_up_n (fun hc => absurd hc.1 (by decide)))⟩
/-- at most so many CELLS and DIODES -/
def r_cd (a b : Int) (M : EM) : Prop := (0 ≤ M 192 13 ∧ M 192 13 ≤ a) ∧ 0 ≤ M 192 14 ∧ M 192 14 ≤ b
def r_AD (g : Int → Int) (a b : Int) (M : EM) (o : EO) : Prop := ∃ M', o = some (0, M') ∧ r_J M' ∧ a_fr r_wq M M' ∧ r_cd a b M' 
theorem r_ad_82_176 {g : Int → Int} {p a b : Int} (hr : r_rw g 40 p) (hb : 0 ≤ b ∧ b ≤ 40) : ∀ (m : Nat) (x2 : Int) (M : EM), r_J M → r_G M = g → r_cd a (b + x2) M → (8 - x2).toNat ≤ m → 0 ≤ x2 → x2 ≤ 8 → r_AD g a (b + 8) M (E_V 176 82 [192, p, x2] M) := by
  obtain ⟨a1, a2, a3, a4, a5, a6, a7, a8⟩ := hr
  have w1 : e_w (28 * p) = 28 * p := a_w_id (by omega) (by omega)
  have w2 : e_w (28 * p + 19) = 28 * p + 19 := a_w_id (by omega) (by omega)
  have w3 : e_w (28 * p + 20) = 28 * p + 20 := a_w_id (by omega) (by omega)
  have hend : ∀ x2 M, r_J M → r_G M = g → r_cd a (b + x2) M → ¬ (x2 < g (28 * p + 19)) → x2 ≤ 8 → r_AD g a (b + 8) M (E_V 176 82 [192, p, x2] M) := by
    intro x2 M hJ hg hc q h8
    have l1 : e_op 60 [193, 28 * p + 19] M = some (g (28 * p + 19)) := (r_rd (by omega) (by omega)).trans (congrArg some (congrFun hg _))
    refine ⟨M, ?_, hJ, a_fr_rf, hc.1, hc.2.1, by have := hc.2.2; omega⟩
    rw [E_V_eq]
    show e_tv E_C (E_V 176) e_t176_82 [192, p, x2] M = _
    unfold e_t176_82
    simp [e_tv, e_ev, e_sv, e_b1, e_b2, x_o1, x_o2, r_O0, w1, w2, l1, q]
  intro m
  induction m with
  | zero => intro x2 M hJ hg hc hm h0 h8; exact hend x2 M hJ hg hc (by omega) h8
  | succ m ih =>
    intro x2 M hJ hg hc hm h0 h8
    rcases x_lt x2 (g (28 * p + 19)) with ⟨q, q_n⟩ | ⟨q, q_n⟩
    · have l1 : e_op 60 [193, 28 * p + 19] M = some (g (28 * p + 19)) := (r_rd (by omega) (by omega)).trans (congrArg some (congrFun hg _))
      have l2 : e_op 60 [193, 28 * p + 20 + x2] M = some (g (28 * p + 20 + x2)) := (r_rd (by omega) (by omega)).trans (congrArg some (congrFun hg _))
      have w4 : e_w (28 * p + 20 + x2) = 28 * p + 20 + x2 := a_w_id (by omega) (by omega)
      have w5 : e_w (x2 + 1) = x2 + 1 := a_w_id (by omega) (by omega)
      have w6 : e_w (8 * p) = 8 * p := a_w_id (by omega) (by omega)
      have w7 : e_w (8 * p + x2) = 8 * p + x2 := a_w_id (by omega) (by omega)
      have hc' := hc
      obtain ⟨c1, c2, c3⟩ := hc'
      have w8 : e_w (M 192 14 + 1) = M 192 14 + 1 := a_w_id (by omega) (by omega)
      by_cases c : g (28 * p + 20 + x2) = 0
      · obtain ⟨M', k, t⟩ := ih (x2 + 1) M hJ hg ⟨c1, c2, by omega⟩ (by omega) (by omega) (by omega)
        have k143 : E_V 176 143 [192, p, x2] M = some (0, M') := by
          rw [E_V_eq]
          show e_tv E_C (E_V 176) e_t176_143 [192, p, x2] M = _
          unfold e_t176_143
          simp [e_tv, e_ev, e_sv, e_b1, e_b2, x_o1, x_o2, w5, k]
        refine ⟨M', ?_, t⟩
        rw [E_V_eq]
        show e_tv E_C (E_V 176) e_t176_82 [192, p, x2] M = _
        unfold e_t176_82
        simp [e_tv, e_ev, e_sv, e_b1, e_b2, x_o1, x_o2, r_O0, w1, w2, w3, w4, l1, l2, q, q_n, c, k143]
      · obtain ⟨u1, u2, u3, u4⟩ := r_d1_ok (v := 8 * p + x2) hJ ⟨c2, by omega⟩ ⟨by omega, by omega⟩
        obtain ⟨M', k, t1, t2, t3⟩ := ih (x2 + 1) (r_d1 M (8 * p + x2)) u1 ((r_q_G u2).trans hg) ⟨by rw [u4]; exact c1, by rw [u3]; omega, by rw [u3]; omega⟩ (by omega) (by omega) (by omega)
        have k143 : E_V 176 143 [192, p, x2] (r_d1 M (8 * p + x2)) = some (0, M') := by
          rw [E_V_eq]
          show e_tv E_C (E_V 176) e_t176_143 [192, p, x2] (r_d1 M (8 * p + x2)) = _
          unfold e_t176_143
          simp [e_tv, e_ev, e_sv, e_b1, e_b2, x_o1, x_o2, w5, k]
        have st := r_st203 (i := M 192 14) (v := 8 * p + x2) (M := M) c2 (by omega)
        refine ⟨M', ?_, t1, a_fr_tr u2 t2, t3⟩
        unfold r_d1 at k143
        rw [E_V_eq]
        show e_tv E_C (E_V 176) e_t176_82 [192, p, x2] M = _
        unfold e_t176_82
        simp [e_tv, e_ev, e_sv, e_b1, e_b2, x_o1, x_o2, r_O0, r_O12, r_F14, r_P14, r_203, w1, w2, w3, w4, w6, w7, w8, l1, l2, q, q_n, c, st, k143]
    · exact hend x2 M hJ hg hc q h8
