section YB
variable {b : Nat → Int} {n k k' : Nat} {M M' : EM}
theorem y_ty (h : y_B b n k M) : r_ty M := by
  obtain ⟨h1, h2, h3, h4, h5, h6, h7, h8⟩ := h
  exact ⟨h1, by omega, by omega, h6, h7, by omega⟩
theorem y_Bt (h : y_B b n k M) (t : r_tt M M') (e : M' 192 15 = k') (hk : k' ≤ n) : y_B b n k' M' := by
  obtain ⟨h1, h2, h3, h4, h5, h6, h7, h8⟩ := h
  obtain ⟨t1, t2, t3, t4, t5⟩ := t
  have e6 := t2 192 16 (by omega)
  have e7 := t2 192 17 (by omega)
  refine ⟨t1, e, hk, e7.trans h4, h5, by rw [e6]; exact h6, by rw [e6]; exact h7, fun i hi => ?_⟩
  rw [e6, t2 _ _ (by omega)]
  exact h8 i hi
theorem y_sg (h : y_B b n k M) : r_sg M = y_s b n k := by
  obtain ⟨h1, h2, h3, h4, h5, h6, h7, h8⟩ := h
  unfold r_sg y_s
  by_cases c : n > k
  · rw [if_pos (by omega), if_pos c, h2]
    have e : (M 192 16 + (k : Int)).toNat = (M 192 16).toNat + k := by omega
    rw [e]
    exact h8 k c
  · rw [if_neg (by omega), if_neg (by omega)]
theorem y_lt {c : Int} (h : y_s b n k = c) (hc : c ≠ -1000) : k < n ∧ b k = c := by
  unfold y_s at h
  by_cases q : n > k
  · rw [if_pos q] at h
    exact ⟨q, h⟩
  · rw [if_neg q] at h
    exact absurd h.symm hc
theorem y_sb (h : k < n) : y_s b n k = b k := if_pos h
theorem y_sn : y_s b n n = -1000 := if_neg (Nat.lt_irrefl _)
theorem y_on (h : y_B b n k M) (hk : k < n) : r_tt M (e_up M 192 15 ((k : Int) + 1)) ∧ y_B b n (k + 1) (e_up M 192 15 ((k : Int) + 1)) := by
  have H := h
  obtain ⟨h1, h2, h3, h4, h5, h6, h7, h8⟩ := H
  have t := r_tt_on (y_ty h) (by omega)
  rw [h2] at t
  exact ⟨t, y_Bt h t (by rw [c_up_s]; omega) (by omega)⟩
theorem y_takes {c : Int} (h : y_B b n k M) (hc : c ≠ -1000) : (y_s b n k = c → E_C 178 [192, c] M = some (1, e_up M 192 15 ((k : Int) + 1)) ∧ k < n ∧ b k = c ∧ r_tt M (e_up M 192 15 ((k : Int) + 1)) ∧ y_B b n (k + 1) (e_up M 192 15 ((k : Int) + 1))) ∧ (y_s b n k ≠ c → E_C 178 [192, c] M = some (0, M)) := by
  have e := y_sg h
  have h2 := h.2.1
  rcases r_takes (y_ty h) hc with ⟨q, k1, t1, l1⟩ | ⟨q, k1⟩
  · rw [e] at q
    rw [h2] at k1
    obtain ⟨z1, z2⟩ := y_lt q hc
    obtain ⟨o1, o2⟩ := y_on h z1
    exact ⟨fun _ => ⟨k1, z1, z2, o1, o2⟩, fun hn => absurd q hn⟩
  · rw [e] at q
    exact ⟨fun hn => absurd hn q, fun _ => k1⟩
/-- behind a number: no further digit may come -/
def y_rd (b : Nat → Int) (n k : Nat) : Prop := w_T b k 2 ≠ 0 ∧ w_T b k 2 ≠ 1 ∧ ¬ (w_T b k 2 = 2 ∧ k < n ∧ 48 ≤ b k ∧ b k ≤ 57)
def y_bad (b : Nat → Int) (n k : Nat) : Prop := w_A b k ∧ k ≤ n ∧ (k < n → ¬ w_ok (w_T b k) (b k)) ∧ (k = n → w_T b n 2 ≠ 0)
/-- a number was read from k on -/
def y_nm (b : Nat → Int) (n k k' : Nat) : Prop := k < k' ∧ k' ≤ n ∧ w_N b k ∧ w_A b k' ∧ y_rd b n k' ∧ w_T b k' 3 = w_T b k 3 ∧ w_T b k' 4 = w_T b k 4 ∧ w_T b k' 5 = w_T b k 5 ∧ w_T b k' 6 = w_T b k 6 ∧ w_T b k' 7 = w_T b k 7 ∧ w_T b k' 8 = w_T b k 8 + 1
theorem y_st1 (hA : w_A b k) (hk : k < n) (h2 : w_T b k 2 = 1) (hd : 48 ≤ b k ∧ b k ≤ 57) : w_A b (k + 1) ∧ w_T b (k + 1) 2 = (if b k = 48 then 3 else 2) ∧ w_T b (k + 1) 3 = w_T b k 3 ∧ w_T b (k + 1) 4 = w_T b k 4 ∧ w_T b (k + 1) 5 = w_T b k 5 ∧ w_T b (k + 1) 6 = w_T b k 6 ∧ w_T b (k + 1) 7 = w_T b k 7 ∧ w_T b (k + 1) 8 = w_T b k 8 + 1 := by
  have ok : w_ok (w_T b k) (b k) := by
    unfold w_ok
    rw [if_neg (by omega), if_pos h2]
    exact Or.inl hd
  refine ⟨w_As hA ok, ?_, ?_, ?_, ?_, ?_, ?_, ?_⟩
  · rw [w_Tn, w_nx2, if_neg (by omega), if_pos h2, if_pos hd]
  · rw [w_Tn, w_nx3, if_neg (by omega)]
  · rw [w_Tn, w_nx4, if_neg (by omega), if_pos h2]
  · rw [w_Tn, w_nx5, if_neg (by omega), if_pos h2, if_pos hd]
  · rw [w_Tn, w_nx6, if_neg (by omega), if_pos h2]
  · rw [w_Tn, w_nx7 ok, if_neg (by omega)]
  · rw [w_Tn, w_nx8, if_pos ⟨h2, hd⟩]
theorem y_st2 (hA : w_A b k) (h2 : w_T b k 2 = 2) (hd : 48 ≤ b k ∧ b k ≤ 57) : w_A b (k + 1) ∧ w_T b (k + 1) 2 = 3 ∧ w_T b (k + 1) 3 = w_T b k 3 ∧ w_T b (k + 1) 4 = w_T b k 4 ∧ w_T b (k + 1) 5 = w_T b k 5 ∧ w_T b (k + 1) 6 = w_T b k 6 ∧ w_T b (k + 1) 7 = w_T b k 7 ∧ w_T b (k + 1) 8 = w_T b k 8 := by
  have ok : w_ok (w_T b k) (b k) := by
    unfold w_ok
    rw [if_neg (by omega), if_neg (by omega)]
    exact Or.inl ⟨h2, hd⟩
  refine ⟨w_As hA ok, ?_, ?_, ?_, ?_, ?_, ?_, ?_⟩
  · rw [w_Tn, w_nx2, if_neg (by omega), if_neg (by omega), if_pos ⟨h2, hd⟩]
  · rw [w_Tn, w_nx3, if_neg (by omega)]
  · rw [w_Tn, w_nx4, if_neg (by omega), if_neg (by omega), if_pos ⟨h2, hd⟩]
  · rw [w_Tn, w_nx5, if_neg (by omega), if_neg (by omega), if_pos ⟨h2, hd⟩]
  · rw [w_Tn, w_nx6, if_neg (by omega), if_neg (by omega), if_pos ⟨h2, hd⟩]
  · rw [w_Tn, w_nx7 ok, if_neg (by omega)]
  · rw [w_Tn, w_nx8, if_neg (by omega)]
theorem y_num (h : y_B b n k M) (hA : w_A b k) (h2 : w_T b k 2 = 1) : (¬ (k < n ∧ 48 ≤ b k ∧ b k ≤ 57) → E_C 179 [192] M = some (0, M)) ∧ (k < n ∧ 48 ≤ b k ∧ b k ≤ 57 → ∃ k' M', E_C 179 [192] M = some (1, M') ∧ r_tt M M' ∧ y_B b n k' M' ∧ y_nm b n k k' ∧ M' 192 18 = w_v b n k) := by
  have ks := r_sign (y_ty h)
  rw [y_sg h] at ks
  refine ⟨fun q => ?_, fun q => ?_⟩
  · have q' : ¬ (48 ≤ y_s b n k ∧ y_s b n k ≤ 57) := fun e => by
      obtain ⟨z1, z2⟩ := y_lt (b := b) (n := n) (k := k) rfl (by omega)
      rw [← z2] at e
      exact q ⟨z1, e⟩
    have i1 := r_in0 (M := M) q'
    rw [r_ent (show e_rok 179 [192] = true from decide_eq_true r_ref)]
    show e_tv E_C (E_V 179) e_t179_0 [192] M = _
    unfold e_t179_0
    simp [e_tv, e_ev, e_sv, e_b1, e_b2, x_o1, x_o2, ks, i1]
  · obtain ⟨q0, q1⟩ := q
    rw [y_sb q0] at ks
    have i1 := r_in1 (M := M) q1
    obtain ⟨a1, a2, a3, a4, a5, a6, a7, a8⟩ := y_st1 hA q0 h2 q1
    have H := h
    obtain ⟨h1, h15, h3, h4, h5, h6, h7, h8⟩ := H
    obtain ⟨n1, n2⟩ := r_tt_nm (v := b k - 48) (y_ty h) ⟨by omega, by omega⟩
    have B1 : y_B b n k (e_up M 192 18 (b k - 48)) := y_Bt h n1 (by rw [r_ff (by decide)]; exact h15) h3
    obtain ⟨o1, o2⟩ := y_on B1 q0
    have w1 : e_w ((k : Int) + 1) = (k : Int) + 1 := by
      clear ks i1 n1 n2 B1 o1 o2
      exact a_w_id (by omega) (by omega)
    have w2 : e_w (b k - 48) = b k - 48 := by
      clear ks i1 n1 n2 B1 o1 o2 w1
      exact a_w_id (by omega) (by omega)
    have t12 := r_tt_tr n1 o1
    have m18 : (e_up (e_up M 192 18 (b k - 48)) 192 15 ((k : Int) + 1)) 192 18 = b k - 48 := (r_ff (by decide)).trans c_up_s
    have ks2 := r_sign (y_ty o2)
    rw [y_sg o2] at ks2
    have p2 := o2.2.1
    generalize hM2 : e_up (e_up M 192 18 (b k - 48)) 192 15 ((k : Int) + 1) = M2 at *
    by_cases c1 : b k = 48
    · refine ⟨k + 1, M2, ?_, t12, o2, ⟨Nat.lt_succ_self k, q0, ⟨h2, q1⟩, a1, ⟨?_, ?_, ?_⟩, a3, a4, a5, a6, a7, a8⟩, ?_⟩
      · have c2 : ¬ (48 < b k) := by
          clear ks i1 w1 w2 ks2
          omega
        rw [r_ent (show e_rok 179 [192] = true from decide_eq_true r_ref)]
        show e_tv E_C (E_V 179) e_t179_0 [192] M = _
        unfold e_t179_0
        simp [e_tv, e_ev, e_sv, e_b1, e_b2, x_o1, x_o2, r_F15, r_F18, r_P15, r_P18, r_ff, ks, i1, w1, w2, h15, hM2, m18, c2]
      · rw [a2, if_pos c1]; decide
      · rw [a2, if_pos c1]; decide
      · rw [a2, if_pos c1]; exact fun e => absurd e.1 (by decide)
      · rw [m18]
        unfold w_v
        rw [if_neg (fun e => e.1 c1)]
    · have c2 : 48 < b k := by
        clear ks i1 w1 w2 ks2
        omega
      rw [if_neg c1] at a2
      by_cases d : k + 1 < n ∧ 48 ≤ b (k + 1) ∧ b (k + 1) ≤ 57
      · obtain ⟨d0, d1⟩ := d
        rw [y_sb d0] at ks2
        have i2 := r_in1 (M := M2) d1
        obtain ⟨e1, e2, e3, e4, e5, e6, e7, e8⟩ := y_st2 a1 a2 d1
        obtain ⟨u1, u2⟩ := r_tt_nm (v := 10 * (b k - 48) + b (k + 1) - 48) (y_ty o2) ⟨by clear ks i1 w1 w2 ks2 i2; omega, by clear ks i1 w1 w2 ks2 i2; omega⟩
        have B3 : y_B b n (k + 1) (e_up M2 192 18 (10 * (b k - 48) + b (k + 1) - 48)) := y_Bt o2 u1 (by rw [r_ff (by decide)]; exact p2) (by clear ks i1 w1 w2 ks2 i2; omega)
        obtain ⟨v1, v2⟩ := y_on B3 d0
        have w3 : e_w (10 * (b k - 48)) = 10 * (b k - 48) := by
          clear ks i1 w1 w2 ks2 i2
          exact a_w_id (by omega) (by omega)
        have w4 : e_w (10 * (b k - 48) + b (k + 1)) = 10 * (b k - 48) + b (k + 1) := by
          clear ks i1 w1 w2 w3 ks2 i2
          exact a_w_id (by omega) (by omega)
        have w5 : e_w (10 * (b k - 48) + b (k + 1) - 48) = 10 * (b k - 48) + b (k + 1) - 48 := by
          clear ks i1 w1 w2 w3 w4 ks2 i2
          exact a_w_id (by omega) (by omega)
        have w6 : e_w (((k + 1 : Nat) : Int) + 1) = ((k + 1 : Nat) : Int) + 1 := by
          clear ks i1 w1 w2 w3 w4 w5 ks2 i2
          exact a_w_id (by omega) (by omega)
        have f15 : ∀ v, (e_up M2 192 18 v) 192 15 = ((k + 1 : Nat) : Int) := fun v => (r_ff (by decide)).trans p2
        refine ⟨k + 1 + 1, _, ?_, r_tt_tr t12 (r_tt_tr u1 v1), v2, ⟨Nat.lt_succ_of_lt (Nat.lt_succ_self k), d0, ⟨h2, q1⟩, e1, ⟨by rw [e2]; decide, by rw [e2]; decide, by rw [e2]; exact fun e => absurd e.1 (by decide)⟩, e3.trans a3, e4.trans a4, e5.trans a5, e6.trans a6, e7.trans a7, e8.trans a8⟩, ?_⟩
        · generalize ((k + 1 : Nat) : Int) = y at f15 w6 p2 ⊢
          rw [r_ent (show e_rok 179 [192] = true from decide_eq_true r_ref)]
          show e_tv E_C (E_V 179) e_t179_0 [192] M = _
          unfold e_t179_0
          simp [e_tv, e_ev, e_sv, e_b1, e_b2, x_o1, x_o2, r_F15, r_F18, r_P15, r_P18, r_ff, ks, i1, w1, w2, h15, hM2, p2, m18, c2, ks2, i2, w3, w4, w5, w6, f15]
        · rw [r_ff (by decide), c_up_s]
          unfold w_v
          rw [if_pos ⟨c1, d0, d1⟩]
      · have i2 : E_C 168 [y_s b n (k + 1), 48, 57] M2 = some (0, M2) := r_in0 (M := M2) (fun e => by
          clear ks i1 w1 w2 ks2
          obtain ⟨z1, z2⟩ := y_lt (b := b) (n := n) (k := k + 1) rfl (by omega)
          rw [← z2] at e
          exact d ⟨z1, e⟩)
        refine ⟨k + 1, M2, ?_, t12, o2, ⟨Nat.lt_succ_self k, q0, ⟨h2, q1⟩, a1, ⟨?_, ?_, ?_⟩, a3, a4, a5, a6, a7, a8⟩, ?_⟩
        · rw [r_ent (show e_rok 179 [192] = true from decide_eq_true r_ref)]
          show e_tv E_C (E_V 179) e_t179_0 [192] M = _
          unfold e_t179_0
          simp [e_tv, e_ev, e_sv, e_b1, e_b2, x_o1, x_o2, r_F15, r_F18, r_P15, r_P18, r_ff, ks, i1, w1, w2, h15, hM2, m18, c2, ks2, i2]
        · rw [a2]; decide
        · rw [a2]; decide
        · rw [a2]; exact fun e => d e.2
        · rw [m18]
          unfold w_v
          rw [if_neg (fun e => d e.2)]
end YB
